abbrev wX7_as (c : Nat → ClassId) (a_this : Nat) (a_text : Nat) (a_facts : Nat) (a_told : Nat) (a_now : Nat) (a_trial : Nat) (a_past : Nat) (a_kept : Nat) (a_sightings : Nat) (a_plan : Nat) (a_slates : Nat) (a_reckoned : Nat) (a_now_knows : Nat) (a_now_kind : Nat) (a_now_on : Nat) (a_now_has : Nat) (ev : Nat → Nat) (x_undoable : Int32) (x_keptBits : Int32) (x_now_members : Int32) (x_now_basin : Int32) (x_now_minute : Int32) (x_now_leeches : Int32) (x_now_kind : Nat → Int32) : va_W := [(a_this, .inr (7, [.ref a_text, .ref a_facts, .ref a_told, .ref a_now, .ref a_trial, .ref a_past, .int x_undoable, .ref a_kept, .int x_keptBits, .ref a_sightings, .ref a_plan, .ref a_slates, .ref a_reckoned])), (a_now, .inr (3, [.int x_now_members, .int x_now_leeches, .int x_now_basin, .int x_now_minute, .ref a_now_knows, .ref a_now_kind, .ref a_now_on, .ref a_now_has])), (a_now_kind, .inl (c 0, 5, .inl x_now_kind))]
def GX7_as (p : Program) (l : Launch) (e : Env) (s : State) (m : MethodId) (args : Array Value) (below : List Frame) (meth : Method) (cd : Code) (D : va_G) (c : Nat → ClassId) (A : Nat → Prop) (a_this : Nat) (a_text : Nat) (a_facts : Nat) (a_told : Nat) (a_now : Nat) (a_trial : Nat) (a_past : Nat) (a_kept : Nat) (a_sightings : Nat) (a_plan : Nat) (a_slates : Nat) (a_reckoned : Nat) (a_now_knows : Nat) (a_now_kind : Nat) (a_now_on : Nat) (a_now_has : Nat) (ev : Nat → Nat) (x_undoable : Int32) (x_keptBits : Int32) (x_now_members : Int32) (x_now_basin : Int32) (x_now_minute : Int32) (x_now_leeches : Int32) (x_now_kind : Nat → Int32) (r_ret : Int32) (pc : Nat) (st : List Value) (loc : List (Nat × Value)) : Prop :=
  ∀ (H : Heap) (locs : List Loc) (ls : Array Slot), va_P D vwCl (wX7_as c a_this a_text a_facts a_told a_now a_trial a_past a_kept a_sightings a_plan a_slates a_reckoned a_now_knows a_now_kind a_now_on a_now_has ev x_undoable x_keptBits x_now_members x_now_basin x_now_minute x_now_leeches x_now_kind) H → va_D A (wX7_as c a_this a_text a_facts a_told a_now a_trial a_past a_kept a_sightings a_plan a_slates a_reckoned a_now_knows a_now_kind a_now_on a_now_has ev x_undoable x_keptBits x_now_members x_now_basin x_now_minute x_now_leeches x_now_kind) → va_S A s.heap H locs → lv_has ls 4 loc → W p l e ({ frames := 1, cells := 0, slots := 0, locals := 21 } : Room) s m args below meth cd H locs 0 0 (MQ below (xQi D (xT c) A r_ret (wX7_as c a_this a_text a_facts a_told a_now a_trial a_past a_kept a_sightings a_plan a_slates a_reckoned a_now_knows a_now_kind a_now_on a_now_has ev x_undoable x_keptBits x_now_members x_now_basin x_now_minute x_now_leeches x_now_kind)) args s 0 0 A) (F0 m pc ls st)
theorem lkX7_as_f153 : Cond.fieldLink RX7 153 "LeechClub$Room" "kind" "[I" ∈ wsX7_as := by decide +kernel
theorem lkX7_as_f159 : Cond.fieldLink RX7 159 "LeechClub" "SUCH" "[I" ∈ wsX7_as := by decide +kernel
theorem lkX7_as_f166 : Cond.fieldLink RX7 166 "LeechClub" "HAS_ROOM" "[I" ∈ wsX7_as := by decide +kernel
theorem lkX7_as_f30 : Cond.fieldLink RX7 30 "LeechClub" "now" "LLeechClub$Room;" ∈ wsX7_as := by decide +kernel
theorem inX7_as_X7 : ∀ w ∈ wsX70, w ∈ wsX7_as := by decide +kernel
theorem inX7_as_X3 : ∀ w ∈ wsX30, w ∈ wsX7_as := by decide +kernel
set_option maxHeartbeats 4000000 in
set_option maxRecDepth 100000 in
theorem kX7_as_26 {p : Program} {l : Launch} {e : Env} {s : State} {m : MethodId} {args : Array Value} {below : List Frame} {meth : Method} {cd : Code} {D : va_G} {c : Nat → ClassId} {A : Nat → Prop} (E0 : xE p s m args meth cd D (xT c) A RX7 cX7_as 4 (some .int) wsX7_as) (a_this : Nat) (a_text : Nat) (a_facts : Nat) (a_told : Nat) (a_now : Nat) (a_trial : Nat) (a_past : Nat) (a_kept : Nat) (a_sightings : Nat) (a_plan : Nat) (a_slates : Nat) (a_reckoned : Nat) (a_now_knows : Nat) (a_now_kind : Nat) (a_now_on : Nat) (a_now_has : Nat) (ev : Nat → Nat) (x_undoable : Int32) (x_keptBits : Int32) (x_now_members : Int32) (x_now_basin : Int32) (x_now_minute : Int32) (x_now_leeches : Int32) (x_now_kind : Nat → Int32) (n : Nat) (r_ret : Int32) (hV : xV ev A s) (hr : fX7_as_26 n x_now_leeches x_now_kind = some (r_ret)) : GX7_as p l e s m args below meth cd D c A a_this a_text a_facts a_told a_now a_trial a_past a_kept a_sightings a_plan a_slates a_reckoned a_now_knows a_now_kind a_now_on a_now_has ev x_undoable x_keptBits x_now_members x_now_basin x_now_minute x_now_leeches x_now_kind r_ret 26 [] [] := by
  have E1 := E0
  obtain ⟨hx, hb, hml, hret, hown, hts, hlocks, hA, hK⟩ := E1
  have hVV := hV
  obtain ⟨hn_RX7_9, hn_RX6_17, hn_RX6_24, hn_RX7_18, hn_RX7_25, hn_RX7_45, hn_RX7_52, hn_RX7_65, hn_RX7_70, hn_RX0_31, hn_RX3_53, hn_RX2_57, hn_RX3_65, hn_RX3_86, hz_TAKES, ht_TAKES, hz_HAS_ROOM, ht_HAS_ROOM, hz_SUCH, ht_SUCH, hz_FIRST_FIGURE, ht_FIRST_FIGURE, hz_compact, hz_sioobe, ho_Room, ho_Slate, ho_grid, hstr, hs_0, hs_1, hs_2, hs_3, hs_4, hs_5, hs_6, hs_7, hs_8⟩ := hVV
  intro H locs ls hP hD hS hl
  unfold fX7_as_26 at hr
  refine lv_bipush (v := (-3)) hx hb dX7_as_26 (by decide) ?_
  have e0 := x_some hr
  subst e0
  exact x_reti hx hb hret hlocks hP hD hK hS dX7_as_28
set_option maxHeartbeats 4000000 in
set_option maxRecDepth 100000 in
theorem kX7_as_61 {p : Program} {l : Launch} {e : Env} {s : State} {m : MethodId} {args : Array Value} {below : List Frame} {meth : Method} {cd : Code} {D : va_G} {c : Nat → ClassId} {A : Nat → Prop} (E0 : xE p s m args meth cd D (xT c) A RX7 cX7_as 4 (some .int) wsX7_as) (a_this : Nat) (a_text : Nat) (a_facts : Nat) (a_told : Nat) (a_now : Nat) (a_trial : Nat) (a_past : Nat) (a_kept : Nat) (a_sightings : Nat) (a_plan : Nat) (a_slates : Nat) (a_reckoned : Nat) (a_now_knows : Nat) (a_now_kind : Nat) (a_now_on : Nat) (a_now_has : Nat) (ev : Nat → Nat) (x_undoable : Int32) (x_keptBits : Int32) (x_now_members : Int32) (x_now_basin : Int32) (x_now_minute : Int32) (x_now_leeches : Int32) (x_now_kind : Nat → Int32) (n : Nat) (r_ret : Int32) (hV : xV ev A s) (t0 : Int32) (hr : fX7_as_61 n x_now_leeches x_now_kind t0 = some (r_ret)) : GX7_as p l e s m args below meth cd D c A a_this a_text a_facts a_told a_now a_trial a_past a_kept a_sightings a_plan a_slates a_reckoned a_now_knows a_now_kind a_now_on a_now_has ev x_undoable x_keptBits x_now_members x_now_basin x_now_minute x_now_leeches x_now_kind r_ret 61 [.int t0] [] := by
  have E1 := E0
  obtain ⟨hx, hb, hml, hret, hown, hts, hlocks, hA, hK⟩ := E1
  have hVV := hV
  obtain ⟨hn_RX7_9, hn_RX6_17, hn_RX6_24, hn_RX7_18, hn_RX7_25, hn_RX7_45, hn_RX7_52, hn_RX7_65, hn_RX7_70, hn_RX0_31, hn_RX3_53, hn_RX2_57, hn_RX3_65, hn_RX3_86, hz_TAKES, ht_TAKES, hz_HAS_ROOM, ht_HAS_ROOM, hz_SUCH, ht_SUCH, hz_FIRST_FIGURE, ht_FIRST_FIGURE, hz_compact, hz_sioobe, ho_Room, ho_Slate, ho_grid, hstr, hs_0, hs_1, hs_2, hs_3, hs_4, hs_5, hs_6, hs_7, hs_8⟩ := hVV
  intro H locs ls hP hD hS hl
  unfold fX7_as_61 at hr
  have e0 := x_some hr
  subst e0
  exact x_reti hx hb hret hlocks hP hD hK hS dX7_as_61
set_option maxHeartbeats 4000000 in
set_option maxRecDepth 100000 in
theorem kX7_as_0 {p : Program} {l : Launch} {e : Env} {s : State} {m : MethodId} {args : Array Value} {below : List Frame} {meth : Method} {cd : Code} {D : va_G} {c : Nat → ClassId} {A : Nat → Prop} (E0 : xE p s m args meth cd D (xT c) A RX7 cX7_as 4 (some .int) wsX7_as) (a_this : Nat) (a_text : Nat) (a_facts : Nat) (a_told : Nat) (a_now : Nat) (a_trial : Nat) (a_past : Nat) (a_kept : Nat) (a_sightings : Nat) (a_plan : Nat) (a_slates : Nat) (a_reckoned : Nat) (a_now_knows : Nat) (a_now_kind : Nat) (a_now_on : Nat) (a_now_has : Nat) (ev : Nat → Nat) (x_undoable : Int32) (x_keptBits : Int32) (x_now_members : Int32) (x_now_basin : Int32) (x_now_minute : Int32) (x_now_leeches : Int32) (x_now_kind : Nat → Int32) (n : Nat) (r_ret : Int32) (hV : xV ev A s) (v1 : Int32) (v2 : Int32) (hr : fX7_as n x_now_leeches x_now_kind v1 v2 = some (r_ret)) : GX7_as p l e s m args below meth cd D c A a_this a_text a_facts a_told a_now a_trial a_past a_kept a_sightings a_plan a_slates a_reckoned a_now_knows a_now_kind a_now_on a_now_has ev x_undoable x_keptBits x_now_members x_now_basin x_now_minute x_now_leeches x_now_kind r_ret 0 [] [(0, .ref a_this), (1, .int v1), (2, .int v2)] := by
  have E1 := E0
  obtain ⟨hx, hb, hml, hret, hown, hts, hlocks, hA, hK⟩ := E1
  have hVV := hV
  obtain ⟨hn_RX7_9, hn_RX6_17, hn_RX6_24, hn_RX7_18, hn_RX7_25, hn_RX7_45, hn_RX7_52, hn_RX7_65, hn_RX7_70, hn_RX0_31, hn_RX3_53, hn_RX2_57, hn_RX3_65, hn_RX3_86, hz_TAKES, ht_TAKES, hz_HAS_ROOM, ht_HAS_ROOM, hz_SUCH, ht_SUCH, hz_FIRST_FIGURE, ht_FIRST_FIGURE, hz_compact, hz_sioobe, ho_Room, ho_Slate, ho_grid, hstr, hs_0, hs_1, hs_2, hs_3, hs_4, hs_5, hs_6, hs_7, hs_8⟩ := hVV
  intro H locs ls hP hD hS hl
  unfold fX7_as at hr
  refine lv_aload_n hx hb dX7_as_0 rfl (lv_at hl 0 rfl) ?_
  refine va_get (D := D) (ci := 7) (v := .ref a_now) (C := RX7) (T := TX7) (N := 13) hx hb hts inX7_as_X7 hown hK hP 0 rfl rfl 3 (by decide) (hts _ lkX7_as_f30) (fun _ h9 => h9) rfl dX7_as_1 ?_
  refine lv_iload_n hx hb dX7_as_4 rfl (lv_at hl 1 rfl) ?_
  obtain ⟨q1_0, hc1, hr⟩ := x_bind hr
  refine x_runi (wr := [(a_this, .inr (7, [.ref a_text, .ref a_facts, .ref a_told, .ref a_now, .ref a_trial, .ref a_past, .int x_undoable, .ref a_kept, .int x_keptBits, .ref a_sightings, .ref a_plan, .ref a_slates, .ref a_reckoned])), (a_now_kind, .inl (c 0, 5, .inl x_now_kind))]) (wf := [(a_this, .inr (7, [.ref a_text, .ref a_facts, .ref a_told, .ref a_now, .ref a_trial, .ref a_past, .int x_undoable, .ref a_kept, .int x_keptBits, .ref a_sightings, .ref a_plan, .ref a_slates, .ref a_reckoned])), (a_now, .inr (3, [.int x_now_members, .int x_now_leeches, .int x_now_basin, .int x_now_minute, .ref a_now_knows, .ref a_now_kind, .ref a_now_on, .ref a_now_has])), (a_now_kind, .inl (c 0, 5, .inl x_now_kind))]) (x_goV (As := [.int v1]) (rest := []) ⟨hx, hb, hml, hown, hts⟩ (mX3_hasLeech l D c a_now a_now_knows a_now_kind a_now_on a_now_has H.size x_now_members x_now_basin x_now_minute x_now_leeches v1 n _ hc1) (cwV 1 hts gX7_as_X3_hasLeech rfl rfl rfl (by decide +kernel) ⟨Nat.le_of_ble_eq_true rfl, Nat.le_of_ble_eq_true rfl⟩) xB_t hP hD hK [1] rfl (by decide) (fun _ _ _ => trivial) 1 3 rfl rfl rfl rfl hl.1 rfl (Nat.le_of_ble_eq_true rfl) dX7_as_5) hP hD hS hA [1] [0, 2] [0, 2, 1] rfl rfl rfl ⟨by decide, by decide, by decide⟩ (fun H locs hP hD hS => ?_)
  refine lv_if_ne (tgt := 14) hx hb dX7_as_8 (by decide) (fun c_2 => ?_) (fun c_2 => ?_)
  · have hr := x_iff hr c_2
    refine lv_iload_n hx hb dX7_as_14 rfl (lv_at hl 2 rfl) ?_
    refine lv_if_lt (tgt := 26) hx hb dX7_as_15 (by decide) (fun c_3 => ?_) (fun c_3 => ?_)
    · have hr := x_ift hr c_3
      exact kX7_as_26 E0 a_this a_text a_facts a_told a_now a_trial a_past a_kept a_sightings a_plan a_slates a_reckoned a_now_knows a_now_kind a_now_on a_now_has ev x_undoable x_keptBits x_now_members x_now_basin x_now_minute x_now_leeches x_now_kind n r_ret hV hr H locs ls hP hD hS (lv_sub hl [] rfl)
    · have hr := x_iff hr c_3
      refine lv_iload_n hx hb dX7_as_18 rfl (lv_at hl 2 rfl) ?_
      refine va_gets hx hb hz_SUCH hS hown (hts _ lkX7_as_f159) (fun _ h9 => h9) dX7_as_19 ?_
      refine va_tlen hx hb ht_SUCH hS (v := 6) rfl dX7_as_22 ?_
      refine lv_icmp_lt (tgt := 29) hx hb dX7_as_23 (by decide) (fun c_4 => ?_) (fun c_4 => ?_)
      · have hr := x_ift hr c_4
        refine lv_aload_n hx hb dX7_as_29 rfl (lv_at hl 0 rfl) ?_
        refine va_get (D := D) (ci := 7) (v := .ref a_now) (C := RX7) (T := TX7) (N := 13) hx hb hts inX7_as_X7 hown hK hP 0 rfl rfl 3 (by decide) (hts _ lkX7_as_f30) (fun _ h9 => h9) rfl dX7_as_30 ?_
        refine va_get (D := D) (ci := 3) (v := .ref a_now_kind) (C := RX3) (T := TX3) (N := 8) hx hb hts inX7_as_X3 hown hK hP 1 rfl rfl 5 (by decide) (hts _ lkX7_as_f153) (fun _ h9 => h9) rfl dX7_as_33 ?_
        refine lv_iload_n hx hb dX7_as_36 rfl (lv_at hl 1 rfl) ?_
        obtain ⟨b_5, hr⟩ := x_chk hr
        refine va_iald hx hb hK hP 2 0 rfl rfl b_5 dX7_as_37 ?_
        refine lv_istore_n (lv' := [(3, .int (x_now_kind v1.toNatClampNeg)), (0, .ref a_this), (1, .int v1), (2, .int v2)]) hx hb dX7_as_38 rfl hl (by decide) rfl (fun ls hl => ?_)
        refine va_gets hx hb hz_SUCH hS hown (hts _ lkX7_as_f159) (fun _ h9 => h9) dX7_as_39 ?_
        refine lv_iload_n hx hb dX7_as_42 rfl (lv_at hl 3 rfl) ?_
        obtain ⟨b_6, hr⟩ := x_chk hr
        refine va_ti hx hb ht_SUCH hS b_6 rfl dX7_as_43 ?_
        refine lv_iload_n hx hb dX7_as_44 rfl (lv_at hl 0 rfl) ?_
        obtain ⟨q7_0, hc7, hr⟩ := x_bind hr
        refine x_runi (wr := [(a_this, .inr (7, [.ref a_text, .ref a_facts, .ref a_told, .ref a_now, .ref a_trial, .ref a_past, .int x_undoable, .ref a_kept, .int x_keptBits, .ref a_sightings, .ref a_plan, .ref a_slates, .ref a_reckoned])), (a_now, .inr (3, [.int x_now_members, .int x_now_leeches, .int x_now_basin, .int x_now_minute, .ref a_now_knows, .ref a_now_kind, .ref a_now_on, .ref a_now_has])), (a_now_kind, .inl (c 0, 5, .inl x_now_kind))]) (wf := [(a_this, .inr (7, [.ref a_text, .ref a_facts, .ref a_told, .ref a_now, .ref a_trial, .ref a_past, .int x_undoable, .ref a_kept, .int x_keptBits, .ref a_sightings, .ref a_plan, .ref a_slates, .ref a_reckoned])), (a_now, .inr (3, [.int x_now_members, .int x_now_leeches, .int x_now_basin, .int x_now_minute, .ref a_now_knows, .ref a_now_kind, .ref a_now_on, .ref a_now_has])), (a_now_kind, .inl (c 0, 5, .inl x_now_kind))]) (x_goS (As := [.int (xt_SUCH v2.toNatClampNeg), .int (x_now_kind v1.toNatClampNeg)]) (rest := []) ⟨hx, hb, hml, hown, hts⟩ (mX7_hasBit l D c H.size (xt_SUCH v2.toNatClampNeg) (x_now_kind v1.toNatClampNeg) n _ hc7) (va_cwS 2 hts gX7_as_X7_hasBit rfl rfl rfl (by decide +kernel) ⟨Nat.le_of_ble_eq_true rfl, Nat.le_of_ble_eq_true rfl⟩) xB_t hP hD hK [] rfl (by decide) (fun _ _ _ => trivial) rfl hl.1 rfl (Nat.le_of_ble_eq_true rfl) dX7_as_45) hP hD hS hA [] [0, 1, 2] [0, 1, 2] rfl rfl rfl ⟨by decide, by decide, by decide⟩ (fun H locs hP hD hS => ?_)
        refine lv_if_eq (tgt := 59) hx hb dX7_as_48 (by decide) (fun c_8 => ?_) (fun c_8 => ?_)
        · have hr := x_ift hr c_8
          refine lv_bipush (v := (-4)) hx hb dX7_as_59 (by decide) ?_
          exact kX7_as_61 E0 a_this a_text a_facts a_told a_now a_trial a_past a_kept a_sightings a_plan a_slates a_reckoned a_now_knows a_now_kind a_now_on a_now_has ev x_undoable x_keptBits x_now_members x_now_basin x_now_minute x_now_leeches x_now_kind n r_ret hV (-4) hr H locs ls hP hD hS (lv_sub hl [] rfl)
        · have hr := x_iff hr c_8
          refine va_gets hx hb hz_HAS_ROOM hS hown (hts _ lkX7_as_f166) (fun _ h9 => h9) dX7_as_51 ?_
          refine lv_iload_n hx hb dX7_as_54 rfl (lv_at hl 0 rfl) ?_
          obtain ⟨b_9, hr⟩ := x_chk hr
          refine va_ti hx hb ht_HAS_ROOM hS b_9 rfl dX7_as_55 ?_
          refine lv_goto (tgt := 61) hx hb dX7_as_56 (by decide) ?_
          exact kX7_as_61 E0 a_this a_text a_facts a_told a_now a_trial a_past a_kept a_sightings a_plan a_slates a_reckoned a_now_knows a_now_kind a_now_on a_now_has ev x_undoable x_keptBits x_now_members x_now_basin x_now_minute x_now_leeches x_now_kind n r_ret hV (xt_HAS_ROOM (x_now_kind v1.toNatClampNeg).toNatClampNeg) hr H locs ls hP hD hS (lv_sub hl [] rfl)
      · have hr := x_iff hr c_4
        exact kX7_as_26 E0 a_this a_text a_facts a_told a_now a_trial a_past a_kept a_sightings a_plan a_slates a_reckoned a_now_knows a_now_kind a_now_on a_now_has ev x_undoable x_keptBits x_now_members x_now_basin x_now_minute x_now_leeches x_now_kind n r_ret hV hr H locs ls hP hD hS (lv_sub hl [] rfl)
  · have hr := x_ift hr c_2
    refine lv_bipush (v := (-2)) hx hb dX7_as_11 (by decide) ?_
    have e0 := x_some hr
    subst e0
    exact x_reti hx hb hret hlocks hP hD hK hS dX7_as_13
set_option maxHeartbeats 4000000 in
set_option maxRecDepth 100000 in
theorem mX7_as (l : Launch) (D : va_G) (c : Nat → ClassId) (a_this : Nat) (a_text : Nat) (a_facts : Nat) (a_told : Nat) (a_now : Nat) (a_trial : Nat) (a_past : Nat) (a_kept : Nat) (a_sightings : Nat) (a_plan : Nat) (a_slates : Nat) (a_reckoned : Nat) (a_now_knows : Nat) (a_now_kind : Nat) (a_now_on : Nat) (a_now_has : Nat) (ev : Nat → Nat) (sz : Nat) (x_undoable : Int32) (x_keptBits : Int32) (x_now_members : Int32) (x_now_basin : Int32) (x_now_minute : Int32) (x_now_leeches : Int32) (x_now_kind : Nat → Int32) (v1 : Int32) (v2 : Int32) (n : Nat) (r_ret : Int32) (h : fX7_as n x_now_leeches x_now_kind v1 v2 = some (r_ret)) : Met l yX7_as wsX7_as ({ frames := 1, cells := 0, slots := 0, locals := 21 } : Room) (xPc D (xT c) sz [.ref a_this, .int v1, .int v2] (wX7_as c a_this a_text a_facts a_told a_now a_trial a_past a_kept a_sightings a_plan a_slates a_reckoned a_now_knows a_now_kind a_now_on a_now_has ev x_undoable x_keptBits x_now_members x_now_basin x_now_minute x_now_leeches x_now_kind) (xV ev (va_A (wX7_as c a_this a_text a_facts a_told a_now a_trial a_past a_kept a_sightings a_plan a_slates a_reckoned a_now_knows a_now_kind a_now_on a_now_has ev x_undoable x_keptBits x_now_members x_now_basin x_now_minute x_now_leeches x_now_kind) sz))) (xQi D (xT c) (va_A (wX7_as c a_this a_text a_facts a_told a_now a_trial a_past a_kept a_sightings a_plan a_slates a_reckoned a_now_knows a_now_kind a_now_on a_now_has ev x_undoable x_keptBits x_now_members x_now_basin x_now_minute x_now_leeches x_now_kind) sz) r_ret (wX7_as c a_this a_text a_facts a_told a_now a_trial a_past a_kept a_sightings a_plan a_slates a_reckoned a_now_knows a_now_kind a_now_on a_now_has ev x_undoable x_keptBits x_now_members x_now_basin x_now_minute x_now_leeches x_now_kind)) 0 0 (va_A (wX7_as c a_this a_text a_facts a_told a_now a_trial a_past a_kept a_sightings a_plan a_slates a_reckoned a_now_knows a_now_kind a_now_on a_now_has ev x_undoable x_keptBits x_now_members x_now_basin x_now_minute x_now_leeches x_now_kind) sz) := by
  refine Met.ofW (cc := cX7_as) (maxL := 4) (ret := (some .int)) (by decide) rfl ?_
  intro p e s m args below meth cd s₁ B hml hv
  obtain ⟨rfl, hsz, hP, hK, hD0, hV⟩ := hv
  subst hsz
  have hl := lv_entry [.ref a_this, .int v1, .int v2] (n := 4) (Nat.le_of_ble_eq_true rfl)
  rw [lg_entry_eq]
  exact kX7_as_0 (A := va_A (wX7_as c a_this a_text a_facts a_told a_now a_trial a_past a_kept a_sightings a_plan a_slates a_reckoned a_now_knows a_now_kind a_now_on a_now_has ev x_undoable x_keptBits x_now_members x_now_basin x_now_minute x_now_leeches x_now_kind) s.heap.size) ⟨B.exec, B.bytes, hml, B.returns, findClass_of_methodNamed B.named, atoms_spec (ws := wsX7_as) B.pre, B.notSynchronized, fun q h => Or.inr h, hK⟩ a_this a_text a_facts a_told a_now a_trial a_past a_kept a_sightings a_plan a_slates a_reckoned a_now_knows a_now_kind a_now_on a_now_has ev x_undoable x_keptBits x_now_members x_now_basin x_now_minute x_now_leeches x_now_kind n r_ret hV v1 v2 h s.heap [] _ hP hD0.self va_S.rf hl

