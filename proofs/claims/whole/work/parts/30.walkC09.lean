abbrev wX6_takeMember (c : Nat → ClassId) (a_this : Nat) (a_letters : Nat) (a_facts : Nat) (a_room : Nat) (a_room_knows : Nat) (a_room_kind : Nat) (a_room_on : Nat) (a_room_has : Nat) (a_facts_leans : Nat) (a_facts_all : Nat) (a_facts_lostWith : Nat) (ev : Nat → Nat) (x_clauses : Int32) (x_room_leeches : Int32) (x_room_basin : Int32) (x_room_minute : Int32) (x_length : Int32) (x_letters : Nat → Int32) (x_facts_size : Int32) (x_facts_all : Nat → Int32) (x_start : Int32) (x_end : Int32) (x_room_knows : Nat → Int32) (x_room_members : Int32) : va_W := [(a_this, .inr (6, [.ref a_letters, .int x_length, .int x_start, .int x_end, .int x_clauses, .ref a_facts, .ref a_room])), (a_room, .inr (3, [.int x_room_members, .int x_room_leeches, .int x_room_basin, .int x_room_minute, .ref a_room_knows, .ref a_room_kind, .ref a_room_on, .ref a_room_has])), (a_letters, .inl (c 0, 200, .inl x_letters)), (a_facts, .inr (0, [.int x_facts_size, .ref a_facts_leans, .ref a_facts_all, .ref a_facts_lostWith])), (a_facts_all, .inl (c 0, 12, .inl x_facts_all)), (a_room_knows, .inl (c 0, 4, .inl x_room_knows))]
def GX6_takeMember (p : Program) (l : Launch) (e : Env) (s : State) (m : MethodId) (args : Array Value) (below : List Frame) (meth : Method) (cd : Code) (D : va_G) (c : Nat → ClassId) (A : Nat → Prop) (a_this : Nat) (a_letters : Nat) (a_facts : Nat) (a_room : Nat) (a_room_knows : Nat) (a_room_kind : Nat) (a_room_on : Nat) (a_room_has : Nat) (a_facts_leans : Nat) (a_facts_all : Nat) (a_facts_lostWith : Nat) (ev : Nat → Nat) (x_clauses : Int32) (x_room_leeches : Int32) (x_room_basin : Int32) (x_room_minute : Int32) (x_length : Int32) (x_letters : Nat → Int32) (x_facts_size : Int32) (x_facts_all : Nat → Int32) (r_ret : Int32) (rm_start : Int32) (rm_end : Int32) (rm_room_knows : Nat → Int32) (rm_room_members : Int32) (pc : Nat) (st : List Value) (loc : List (Nat × Value)) (x_start : Int32) (x_end : Int32) (x_room_knows : Nat → Int32) (x_room_members : Int32) : Prop :=
  ∀ (H : Heap) (locs : List Loc) (ls : Array Slot), va_P D vwCl (wX6_takeMember c a_this a_letters a_facts a_room a_room_knows a_room_kind a_room_on a_room_has a_facts_leans a_facts_all a_facts_lostWith ev x_clauses x_room_leeches x_room_basin x_room_minute x_length x_letters x_facts_size x_facts_all x_start x_end x_room_knows x_room_members) H → va_D A (wX6_takeMember c a_this a_letters a_facts a_room a_room_knows a_room_kind a_room_on a_room_has a_facts_leans a_facts_all a_facts_lostWith ev x_clauses x_room_leeches x_room_basin x_room_minute x_length x_letters x_facts_size x_facts_all x_start x_end x_room_knows x_room_members) → va_S A s.heap H locs → lv_has ls 2 loc → W p l e ({ frames := 3, cells := 0, slots := 0, locals := 65 } : Room) s m args below meth cd H locs 0 0 (MQ below (xQi D (xT c) A r_ret (wX6_takeMember c a_this a_letters a_facts a_room a_room_knows a_room_kind a_room_on a_room_has a_facts_leans a_facts_all a_facts_lostWith ev x_clauses x_room_leeches x_room_basin x_room_minute x_length x_letters x_facts_size x_facts_all rm_start rm_end rm_room_knows rm_room_members)) args s 0 0 A) (F0 m pc ls st)
theorem lkX6_takeMember_f109 : Cond.fieldLink RX6 109 "LeechClub$Room" "members" "I" ∈ wsX6_takeMember := by decide +kernel
theorem lkX6_takeMember_f18 : Cond.fieldLink RX6 18 "LeechClub$Text" "facts" "LLeechClub$Facts;" ∈ wsX6_takeMember := by decide +kernel
theorem lkX6_takeMember_f25 : Cond.fieldLink RX6 25 "LeechClub$Text" "room" "LLeechClub$Room;" ∈ wsX6_takeMember := by decide +kernel
theorem inX6_takeMember_X3 : ∀ w ∈ wsX30, w ∈ wsX6_takeMember := by decide +kernel
theorem inX6_takeMember_X6 : ∀ w ∈ wsX60, w ∈ wsX6_takeMember := by decide +kernel
set_option maxHeartbeats 4000000 in
set_option maxRecDepth 100000 in
theorem kX6_takeMember_0 {p : Program} {l : Launch} {e : Env} {s : State} {m : MethodId} {args : Array Value} {below : List Frame} {meth : Method} {cd : Code} {D : va_G} {c : Nat → ClassId} {A : Nat → Prop} (E0 : xE p s m args meth cd D (xT c) A RX6 cX6_takeMember 2 (some .boolean) wsX6_takeMember) (a_this : Nat) (a_letters : Nat) (a_facts : Nat) (a_room : Nat) (a_room_knows : Nat) (a_room_kind : Nat) (a_room_on : Nat) (a_room_has : Nat) (a_facts_leans : Nat) (a_facts_all : Nat) (a_facts_lostWith : Nat) (ev : Nat → Nat) (x_clauses : Int32) (x_room_leeches : Int32) (x_room_basin : Int32) (x_room_minute : Int32) (x_length : Int32) (x_letters : Nat → Int32) (x_facts_size : Int32) (x_facts_all : Nat → Int32) (n : Nat) (r_ret : Int32) (rm_start : Int32) (rm_end : Int32) (rm_room_knows : Nat → Int32) (rm_room_members : Int32) (hV : xV ev A s) (x_start : Int32) (x_end : Int32) (x_room_knows : Nat → Int32) (x_room_members : Int32) (hr : fX6_takeMember n x_length x_letters x_facts_size x_facts_all x_start x_end x_room_knows x_room_members = some (r_ret, rm_start, rm_end, rm_room_knows, rm_room_members)) : GX6_takeMember p l e s m args below meth cd D c A a_this a_letters a_facts a_room a_room_knows a_room_kind a_room_on a_room_has a_facts_leans a_facts_all a_facts_lostWith ev x_clauses x_room_leeches x_room_basin x_room_minute x_length x_letters x_facts_size x_facts_all r_ret rm_start rm_end rm_room_knows rm_room_members 0 [] [(0, .ref a_this)] x_start x_end x_room_knows x_room_members := by
  have E1 := E0
  obtain ⟨hx, hb, hml, hret, hown, hts, hlocks, hA, hK⟩ := E1
  have hVV := hV
  obtain ⟨hn_RX7_9, hn_RX6_17, hn_RX6_24, hn_RX7_18, hn_RX7_25, hn_RX7_45, hn_RX7_52, hn_RX7_65, hn_RX7_70, hn_RX0_31, hn_RX3_53, hn_RX2_57, hn_RX3_65, hn_RX3_86, hz_TAKES, ht_TAKES, hz_HAS_ROOM, ht_HAS_ROOM, hz_SUCH, ht_SUCH, hz_FIRST_FIGURE, ht_FIRST_FIGURE, hz_compact, hz_sioobe, ho_Room, ho_Slate, ho_grid, hstr, hs_0, hs_1, hs_2, hs_3, hs_4, hs_5, hs_6, hs_7, hs_8⟩ := hVV
  intro H locs ls hP hD hS hl
  unfold fX6_takeMember at hr
  refine lv_aload_n hx hb dX6_takeMember_0 rfl (lv_at hl 0 rfl) ?_
  refine va_get (D := D) (ci := 6) (v := .ref a_room) (C := RX6) (T := TX6) (N := 7) hx hb hts inX6_takeMember_X6 hown hK hP 0 rfl rfl 6 (by decide) (hts _ lkX6_takeMember_f25) (fun _ h9 => h9) rfl dX6_takeMember_1 ?_
  refine va_get (D := D) (ci := 3) (v := .int x_room_members) (C := RX3) (T := TX3) (N := 8) hx hb hts inX6_takeMember_X3 hown hK hP 1 rfl rfl 0 (by decide) (hts _ lkX6_takeMember_f109) (fun _ h9 => h9) rfl dX6_takeMember_4 ?_
  refine lv_iconst (v := 4) hx hb dX6_takeMember_7 (by decide) ?_
  refine lv_icmp_ne (tgt := 13) hx hb dX6_takeMember_8 (by decide) (fun c_1 => ?_) (fun c_1 => ?_)
  · have hr := x_iff hr c_1
    refine lv_aload_n hx hb dX6_takeMember_13 rfl (lv_at hl 0 rfl) ?_
    obtain ⟨⟨q2_0, q2_1⟩, hc2, hr⟩ := x_bind hr
    try dsimp only at hr
    refine x_runv (wr := [(a_room, .inr (3, [.int x_room_members, .int x_room_leeches, .int x_room_basin, .int x_room_minute, .ref a_room_knows, .ref a_room_kind, .ref a_room_on, .ref a_room_has])), (a_facts, .inr (0, [.int x_facts_size, .ref a_facts_leans, .ref a_facts_all, .ref a_facts_lostWith])), (a_facts_all, .inl (c 0, 12, .inl x_facts_all)), (a_room_knows, .inl (c 0, 4, .inl x_room_knows))]) (wf := [(a_this, .inr (6, [.ref a_letters, .int x_length, .int q2_0, .int q2_1, .int x_clauses, .ref a_facts, .ref a_room])), (a_room, .inr (3, [.int x_room_members, .int x_room_leeches, .int x_room_basin, .int x_room_minute, .ref a_room_knows, .ref a_room_kind, .ref a_room_on, .ref a_room_has])), (a_letters, .inl (c 0, 200, .inl x_letters)), (a_facts, .inr (0, [.int x_facts_size, .ref a_facts_leans, .ref a_facts_all, .ref a_facts_lostWith])), (a_facts_all, .inl (c 0, 12, .inl x_facts_all)), (a_room_knows, .inl (c 0, 4, .inl x_room_knows))]) (x_goV (As := []) (rest := []) ⟨hx, hb, hml, hown, hts⟩ (mX6_step l D c a_this a_letters a_facts a_room H.size x_clauses x_length x_letters x_start x_end n _ _ hc2) (cwV 0 hts gX6_takeMember_X6_step rfl rfl rfl (by decide +kernel) ⟨Nat.le_of_ble_eq_true rfl, Nat.le_of_ble_eq_true rfl⟩) xB_t hP hD hK [0, 2] rfl (by decide) (fun _ _ _ => trivial) 0 6 rfl rfl rfl rfl hl.1 rfl (Nat.le_of_ble_eq_true rfl) dX6_takeMember_14) hP hD hS hA [0, 2] [1, 3, 4, 5] [4, 0, 5, 1, 2, 3] rfl rfl rfl ⟨by decide, by decide, by decide⟩ (fun H locs hP hD hS => ?_)
    refine lv_aload_n hx hb dX6_takeMember_17 rfl (lv_at hl 0 rfl) ?_
    obtain ⟨⟨q3_0, q3_1, q3_2⟩, hc3, hr⟩ := x_bind hr
    try dsimp only at hr
    refine x_runi (wr := [(a_room, .inr (3, [.int x_room_members, .int x_room_leeches, .int x_room_basin, .int x_room_minute, .ref a_room_knows, .ref a_room_kind, .ref a_room_on, .ref a_room_has])), (a_facts_all, .inl (c 0, 12, .inl x_facts_all)), (a_room_knows, .inl (c 0, 4, .inl x_room_knows))]) (wf := [(a_this, .inr (6, [.ref a_letters, .int x_length, .int q3_1, .int q3_2, .int x_clauses, .ref a_facts, .ref a_room])), (a_room, .inr (3, [.int x_room_members, .int x_room_leeches, .int x_room_basin, .int x_room_minute, .ref a_room_knows, .ref a_room_kind, .ref a_room_on, .ref a_room_has])), (a_letters, .inl (c 0, 200, .inl x_letters)), (a_facts, .inr (0, [.int x_facts_size, .ref a_facts_leans, .ref a_facts_all, .ref a_facts_lostWith])), (a_facts_all, .inl (c 0, 12, .inl x_facts_all)), (a_room_knows, .inl (c 0, 4, .inl x_room_knows))]) (x_goV (As := []) (rest := []) ⟨hx, hb, hml, hown, hts⟩ (mX6_stepOverSet l D c a_this a_letters a_facts a_room a_facts_leans a_facts_all a_facts_lostWith H.size x_clauses x_length x_letters x_facts_size q2_0 q2_1 n _ _ _ hc3) (cwV 0 hts gX6_takeMember_X6_stepOverSet rfl rfl rfl (by decide +kernel) ⟨Nat.le_of_ble_eq_true rfl, Nat.le_of_ble_eq_true rfl⟩) xB_t hP hD hK [0, 2, 3] rfl (by decide) (fun _ _ _ => trivial) 0 6 rfl rfl rfl rfl hl.1 rfl (Nat.le_of_ble_eq_true rfl) dX6_takeMember_18) hP hD hS hA [0, 2, 3] [1, 4, 5] [3, 0, 4, 5, 1, 2] rfl rfl rfl ⟨by decide, by decide, by decide⟩ (fun H locs hP hD hS => ?_)
    refine lv_istore_n (lv' := [(1, .int q3_0), (0, .ref a_this)]) hx hb dX6_takeMember_21 rfl hl (by decide) rfl (fun ls hl => ?_)
    refine lv_iload_n hx hb dX6_takeMember_22 rfl (lv_at hl 0 rfl) ?_
    refine lv_iconst (v := (-1)) hx hb dX6_takeMember_23 (by decide) ?_
    refine lv_icmp_ne (tgt := 29) hx hb dX6_takeMember_24 (by decide) (fun c_4 => ?_) (fun c_4 => ?_)
    · have hr := x_iff hr c_4
      refine lv_aload_n hx hb dX6_takeMember_29 rfl (lv_at hl 1 rfl) ?_
      refine va_get (D := D) (ci := 6) (v := .ref a_room) (C := RX6) (T := TX6) (N := 7) hx hb hts inX6_takeMember_X6 hown hK hP 0 rfl rfl 6 (by decide) (hts _ lkX6_takeMember_f25) (fun _ h9 => h9) rfl dX6_takeMember_30 ?_
      refine lv_aload_n hx hb dX6_takeMember_33 rfl (lv_at hl 1 rfl) ?_
      refine va_get (D := D) (ci := 6) (v := .ref a_facts) (C := RX6) (T := TX6) (N := 7) hx hb hts inX6_takeMember_X6 hown hK hP 0 rfl rfl 5 (by decide) (hts _ lkX6_takeMember_f18) (fun _ h9 => h9) rfl dX6_takeMember_34 ?_
      refine lv_iload_n hx hb dX6_takeMember_37 rfl (lv_at hl 0 rfl) ?_
      obtain ⟨q5_0, hc5, hr⟩ := x_bind hr
      refine x_runi (wr := [(a_this, .inr (6, [.ref a_letters, .int x_length, .int q3_1, .int q3_2, .int x_clauses, .ref a_facts, .ref a_room])), (a_room, .inr (3, [.int x_room_members, .int x_room_leeches, .int x_room_basin, .int x_room_minute, .ref a_room_knows, .ref a_room_kind, .ref a_room_on, .ref a_room_has])), (a_letters, .inl (c 0, 200, .inl x_letters)), (a_room_knows, .inl (c 0, 4, .inl x_room_knows))]) (wf := [(a_this, .inr (6, [.ref a_letters, .int x_length, .int q3_1, .int q3_2, .int x_clauses, .ref a_facts, .ref a_room])), (a_room, .inr (3, [.int x_room_members, .int x_room_leeches, .int x_room_basin, .int x_room_minute, .ref a_room_knows, .ref a_room_kind, .ref a_room_on, .ref a_room_has])), (a_letters, .inl (c 0, 200, .inl x_letters)), (a_facts, .inr (0, [.int x_facts_size, .ref a_facts_leans, .ref a_facts_all, .ref a_facts_lostWith])), (a_facts_all, .inl (c 0, 12, .inl x_facts_all)), (a_room_knows, .inl (c 0, 4, .inl x_room_knows))]) (x_goV (As := [.int q3_0]) (rest := [.ref a_room]) ⟨hx, hb, hml, hown, hts⟩ (mX0_allOf l D c a_facts a_facts_leans a_facts_all a_facts_lostWith ev H.size x_facts_size x_facts_all q3_0 n _ hc5) (cwV 1 hts gX6_takeMember_X0_allOf rfl rfl rfl (by decide +kernel) ⟨Nat.le_of_ble_eq_true rfl, Nat.le_of_ble_eq_true rfl⟩) xV_b hP hD hK [3, 4] rfl (by decide) (fun U hU hW => xV_call hV hS (va_free hD hS hA [3, 4] rfl) hU hW) 3 0 rfl rfl rfl rfl hl.1 rfl (Nat.le_of_ble_eq_true rfl) dX6_takeMember_38) hP hD hS hA [3, 4] [0, 1, 2, 5] [0, 1, 2, 4, 5, 3] rfl rfl rfl ⟨by decide, by decide, by decide⟩ (fun H locs hP hD hS => ?_)
      obtain ⟨⟨q6_0, q6_1⟩, hc6, hr⟩ := x_bind hr
      try dsimp only at hr
      refine x_runv (wr := [(a_this, .inr (6, [.ref a_letters, .int x_length, .int q3_1, .int q3_2, .int x_clauses, .ref a_facts, .ref a_room])), (a_letters, .inl (c 0, 200, .inl x_letters)), (a_facts, .inr (0, [.int x_facts_size, .ref a_facts_leans, .ref a_facts_all, .ref a_facts_lostWith])), (a_facts_all, .inl (c 0, 12, .inl x_facts_all))]) (wf := [(a_this, .inr (6, [.ref a_letters, .int x_length, .int q3_1, .int q3_2, .int x_clauses, .ref a_facts, .ref a_room])), (a_room, .inr (3, [.int q6_1, .int x_room_leeches, .int x_room_basin, .int x_room_minute, .ref a_room_knows, .ref a_room_kind, .ref a_room_on, .ref a_room_has])), (a_letters, .inl (c 0, 200, .inl x_letters)), (a_facts, .inr (0, [.int x_facts_size, .ref a_facts_leans, .ref a_facts_all, .ref a_facts_lostWith])), (a_facts_all, .inl (c 0, 12, .inl x_facts_all)), (a_room_knows, .inl (c 0, 4, .inl q6_0))]) (x_goV (As := [.int q5_0]) (rest := []) ⟨hx, hb, hml, hown, hts⟩ (mX3_addMember l D c a_room a_room_knows a_room_kind a_room_on a_room_has H.size x_room_leeches x_room_basin x_room_minute x_room_knows x_room_members q5_0 n _ _ hc6) (cwV 1 hts gX6_takeMember_X3_addMember rfl rfl rfl (by decide +kernel) ⟨Nat.le_of_ble_eq_true rfl, Nat.le_of_ble_eq_true rfl⟩) xB_t hP hD hK [1, 5] rfl (by decide) (fun _ _ _ => trivial) 1 3 rfl rfl rfl rfl hl.1 rfl (Nat.le_of_ble_eq_true rfl) dX6_takeMember_41) hP hD hS hA [1, 5] [0, 2, 3, 4] [0, 4, 1, 2, 3, 5] rfl rfl rfl ⟨by decide, by decide, by decide⟩ (fun H locs hP hD hS => ?_)
      refine lv_iconst (v := 1) hx hb dX6_takeMember_44 (by decide) ?_
      have g0 := x_some hr
      have e0 := x_p1 g0
      have g1 := x_p2 g0
      have e1 := x_p1 g1
      have g2 := x_p2 g1
      have e2 := x_p1 g2
      have g3 := x_p2 g2
      have e3 := x_p1 g3
      have e4 := x_p2 g3
      subst e0
      subst e1
      subst e2
      subst e3
      subst e4
      exact x_retz hx hb hret rfl hlocks hP hD hK hS dX6_takeMember_45
    · have hr := x_ift hr c_4
      refine lv_iconst (v := 0) hx hb dX6_takeMember_27 (by decide) ?_
      have g0 := x_some hr
      have e0 := x_p1 g0
      have g1 := x_p2 g0
      have e1 := x_p1 g1
      have g2 := x_p2 g1
      have e2 := x_p1 g2
      have g3 := x_p2 g2
      have e3 := x_p1 g3
      have e4 := x_p2 g3
      subst e0
      subst e1
      subst e2
      subst e3
      subst e4
      exact x_retz hx hb hret rfl hlocks hP hD hK hS dX6_takeMember_28
  · have hr := x_ift hr c_1
    refine lv_iconst (v := 0) hx hb dX6_takeMember_11 (by decide) ?_
    have g0 := x_some hr
    have e0 := x_p1 g0
    have g1 := x_p2 g0
    have e1 := x_p1 g1
    have g2 := x_p2 g1
    have e2 := x_p1 g2
    have g3 := x_p2 g2
    have e3 := x_p1 g3
    have e4 := x_p2 g3
    subst e0
    subst e1
    subst e2
    subst e3
    subst e4
    exact x_retz hx hb hret rfl hlocks hP hD hK hS dX6_takeMember_12
set_option maxHeartbeats 4000000 in
set_option maxRecDepth 100000 in
theorem mX6_takeMember (l : Launch) (D : va_G) (c : Nat → ClassId) (a_this : Nat) (a_letters : Nat) (a_facts : Nat) (a_room : Nat) (a_room_knows : Nat) (a_room_kind : Nat) (a_room_on : Nat) (a_room_has : Nat) (a_facts_leans : Nat) (a_facts_all : Nat) (a_facts_lostWith : Nat) (ev : Nat → Nat) (sz : Nat) (x_clauses : Int32) (x_room_leeches : Int32) (x_room_basin : Int32) (x_room_minute : Int32) (x_length : Int32) (x_letters : Nat → Int32) (x_facts_size : Int32) (x_facts_all : Nat → Int32) (x_start : Int32) (x_end : Int32) (x_room_knows : Nat → Int32) (x_room_members : Int32) (n : Nat) (r_ret : Int32) (rm_start : Int32) (rm_end : Int32) (rm_room_knows : Nat → Int32) (rm_room_members : Int32) (h : fX6_takeMember n x_length x_letters x_facts_size x_facts_all x_start x_end x_room_knows x_room_members = some (r_ret, rm_start, rm_end, rm_room_knows, rm_room_members)) : Met l yX6_takeMember wsX6_takeMember ({ frames := 3, cells := 0, slots := 0, locals := 65 } : Room) (xPc D (xT c) sz [.ref a_this] (wX6_takeMember c a_this a_letters a_facts a_room a_room_knows a_room_kind a_room_on a_room_has a_facts_leans a_facts_all a_facts_lostWith ev x_clauses x_room_leeches x_room_basin x_room_minute x_length x_letters x_facts_size x_facts_all x_start x_end x_room_knows x_room_members) (xV ev (va_A (wX6_takeMember c a_this a_letters a_facts a_room a_room_knows a_room_kind a_room_on a_room_has a_facts_leans a_facts_all a_facts_lostWith ev x_clauses x_room_leeches x_room_basin x_room_minute x_length x_letters x_facts_size x_facts_all x_start x_end x_room_knows x_room_members) sz))) (xQi D (xT c) (va_A (wX6_takeMember c a_this a_letters a_facts a_room a_room_knows a_room_kind a_room_on a_room_has a_facts_leans a_facts_all a_facts_lostWith ev x_clauses x_room_leeches x_room_basin x_room_minute x_length x_letters x_facts_size x_facts_all x_start x_end x_room_knows x_room_members) sz) r_ret (wX6_takeMember c a_this a_letters a_facts a_room a_room_knows a_room_kind a_room_on a_room_has a_facts_leans a_facts_all a_facts_lostWith ev x_clauses x_room_leeches x_room_basin x_room_minute x_length x_letters x_facts_size x_facts_all rm_start rm_end rm_room_knows rm_room_members)) 0 0 (va_A (wX6_takeMember c a_this a_letters a_facts a_room a_room_knows a_room_kind a_room_on a_room_has a_facts_leans a_facts_all a_facts_lostWith ev x_clauses x_room_leeches x_room_basin x_room_minute x_length x_letters x_facts_size x_facts_all x_start x_end x_room_knows x_room_members) sz) := by
  refine Met.ofW (cc := cX6_takeMember) (maxL := 2) (ret := (some .boolean)) (by decide) rfl ?_
  intro p e s m args below meth cd s₁ B hml hv
  obtain ⟨rfl, hsz, hP, hK, hD0, hV⟩ := hv
  subst hsz
  have hl := lv_entry [.ref a_this] (n := 2) (Nat.le_of_ble_eq_true rfl)
  rw [lg_entry_eq]
  exact kX6_takeMember_0 (A := va_A (wX6_takeMember c a_this a_letters a_facts a_room a_room_knows a_room_kind a_room_on a_room_has a_facts_leans a_facts_all a_facts_lostWith ev x_clauses x_room_leeches x_room_basin x_room_minute x_length x_letters x_facts_size x_facts_all x_start x_end x_room_knows x_room_members) s.heap.size) ⟨B.exec, B.bytes, hml, B.returns, findClass_of_methodNamed B.named, atoms_spec (ws := wsX6_takeMember) B.pre, B.notSynchronized, fun q h => Or.inr h, hK⟩ a_this a_letters a_facts a_room a_room_knows a_room_kind a_room_on a_room_has a_facts_leans a_facts_all a_facts_lostWith ev x_clauses x_room_leeches x_room_basin x_room_minute x_length x_letters x_facts_size x_facts_all n r_ret rm_start rm_end rm_room_knows rm_room_members hV x_start x_end x_room_knows x_room_members h s.heap [] _ hP hD0.self va_S.rf hl

abbrev wX6_numberBelow (c : Nat → ClassId) (a_this : Nat) (a_letters : Nat) (a_facts : Nat) (a_room : Nat) (x_clauses : Int32) (x_end : Int32) (x_start : Int32) (x_length : Int32) (x_letters : Nat → Int32) : va_W := [(a_this, .inr (6, [.ref a_letters, .int x_length, .int x_start, .int x_end, .int x_clauses, .ref a_facts, .ref a_room])), (a_letters, .inl (c 0, 200, .inl x_letters))]
def GX6_numberBelow (p : Program) (l : Launch) (e : Env) (s : State) (m : MethodId) (args : Array Value) (below : List Frame) (meth : Method) (cd : Code) (D : va_G) (c : Nat → ClassId) (A : Nat → Prop) (a_this : Nat) (a_letters : Nat) (a_facts : Nat) (a_room : Nat) (x_clauses : Int32) (x_end : Int32) (x_start : Int32) (x_length : Int32) (x_letters : Nat → Int32) (r_ret : Int32) (pc : Nat) (st : List Value) (loc : List (Nat × Value)) : Prop :=
  ∀ (H : Heap) (locs : List Loc) (ls : Array Slot), va_P D vwCl (wX6_numberBelow c a_this a_letters a_facts a_room x_clauses x_end x_start x_length x_letters) H → va_D A (wX6_numberBelow c a_this a_letters a_facts a_room x_clauses x_end x_start x_length x_letters) → va_S A s.heap H locs → lv_has ls 3 loc → W p l e ({ frames := 1, cells := 0, slots := 0, locals := 21 } : Room) s m args below meth cd H locs 0 0 (MQ below (xQi D (xT c) A r_ret (wX6_numberBelow c a_this a_letters a_facts a_room x_clauses x_end x_start x_length x_letters)) args s 0 0 A) (F0 m pc ls st)
theorem lkX6_numberBelow_f40 : Cond.fieldLink RX6 40 "LeechClub$Text" "end" "I" ∈ wsX6_numberBelow := by decide +kernel
theorem lkX6_numberBelow_f50 : Cond.fieldLink RX6 50 "LeechClub$Text" "start" "I" ∈ wsX6_numberBelow := by decide +kernel
theorem lkX6_numberBelow_f9 : Cond.fieldLink RX6 9 "LeechClub$Text" "letters" "[I" ∈ wsX6_numberBelow := by decide +kernel
theorem inX6_numberBelow_X6 : ∀ w ∈ wsX60, w ∈ wsX6_numberBelow := by decide +kernel
set_option maxHeartbeats 4000000 in
set_option maxRecDepth 100000 in
theorem kX6_numberBelow_24 {p : Program} {l : Launch} {e : Env} {s : State} {m : MethodId} {args : Array Value} {below : List Frame} {meth : Method} {cd : Code} {D : va_G} {c : Nat → ClassId} {A : Nat → Prop} (E0 : xE p s m args meth cd D (xT c) A RX6 cX6_numberBelow 3 (some .int) wsX6_numberBelow) (a_this : Nat) (a_letters : Nat) (a_facts : Nat) (a_room : Nat) (x_clauses : Int32) (x_end : Int32) (x_start : Int32) (x_length : Int32) (x_letters : Nat → Int32) (n : Nat) (r_ret : Int32) (hr : fX6_numberBelow_24 n x_end x_start x_length x_letters = some (r_ret)) : GX6_numberBelow p l e s m args below meth cd D c A a_this a_letters a_facts a_room x_clauses x_end x_start x_length x_letters r_ret 24 [] [] := by
  have E1 := E0
  obtain ⟨hx, hb, hml, hret, hown, hts, hlocks, hA, hK⟩ := E1
  intro H locs ls hP hD hS hl
  unfold fX6_numberBelow_24 at hr
  refine lv_iconst (v := (-1)) hx hb dX6_numberBelow_24 (by decide) ?_
  have e0 := x_some hr
  subst e0
  exact x_reti hx hb hret hlocks hP hD hK hS dX6_numberBelow_25
set_option maxHeartbeats 4000000 in
set_option maxRecDepth 100000 in
theorem kX6_numberBelow_49 {p : Program} {l : Launch} {e : Env} {s : State} {m : MethodId} {args : Array Value} {below : List Frame} {meth : Method} {cd : Code} {D : va_G} {c : Nat → ClassId} {A : Nat → Prop} (E0 : xE p s m args meth cd D (xT c) A RX6 cX6_numberBelow 3 (some .int) wsX6_numberBelow) (a_this : Nat) (a_letters : Nat) (a_facts : Nat) (a_room : Nat) (x_clauses : Int32) (x_end : Int32) (x_start : Int32) (x_length : Int32) (x_letters : Nat → Int32) (n : Nat) (r_ret : Int32) (t0 : Int32) (hr : fX6_numberBelow_49 n x_end x_start x_length x_letters t0 = some (r_ret)) : GX6_numberBelow p l e s m args below meth cd D c A a_this a_letters a_facts a_room x_clauses x_end x_start x_length x_letters r_ret 49 [.int t0] [] := by
  have E1 := E0
  obtain ⟨hx, hb, hml, hret, hown, hts, hlocks, hA, hK⟩ := E1
  intro H locs ls hP hD hS hl
  unfold fX6_numberBelow_49 at hr
  have e0 := x_some hr
  subst e0
  exact x_reti hx hb hret hlocks hP hD hK hS dX6_numberBelow_49
set_option maxHeartbeats 4000000 in
set_option maxRecDepth 100000 in
theorem kX6_numberBelow_0 {p : Program} {l : Launch} {e : Env} {s : State} {m : MethodId} {args : Array Value} {below : List Frame} {meth : Method} {cd : Code} {D : va_G} {c : Nat → ClassId} {A : Nat → Prop} (E0 : xE p s m args meth cd D (xT c) A RX6 cX6_numberBelow 3 (some .int) wsX6_numberBelow) (a_this : Nat) (a_letters : Nat) (a_facts : Nat) (a_room : Nat) (x_clauses : Int32) (x_end : Int32) (x_start : Int32) (x_length : Int32) (x_letters : Nat → Int32) (n : Nat) (r_ret : Int32) (v1 : Int32) (hr : fX6_numberBelow n x_end x_start x_length x_letters v1 = some (r_ret)) : GX6_numberBelow p l e s m args below meth cd D c A a_this a_letters a_facts a_room x_clauses x_end x_start x_length x_letters r_ret 0 [] [(0, .ref a_this), (1, .int v1)] := by
  have E1 := E0
  obtain ⟨hx, hb, hml, hret, hown, hts, hlocks, hA, hK⟩ := E1
  intro H locs ls hP hD hS hl
  unfold fX6_numberBelow at hr
  refine lv_aload_n hx hb dX6_numberBelow_0 rfl (lv_at hl 0 rfl) ?_
  refine va_get (D := D) (ci := 6) (v := .int x_end) (C := RX6) (T := TX6) (N := 7) hx hb hts inX6_numberBelow_X6 hown hK hP 0 rfl rfl 3 (by decide) (hts _ lkX6_numberBelow_f40) (fun _ h9 => h9) rfl dX6_numberBelow_1 ?_
  refine lv_aload_n hx hb dX6_numberBelow_4 rfl (lv_at hl 0 rfl) ?_
  refine va_get (D := D) (ci := 6) (v := .int x_start) (C := RX6) (T := TX6) (N := 7) hx hb hts inX6_numberBelow_X6 hown hK hP 0 rfl rfl 2 (by decide) (hts _ lkX6_numberBelow_f50) (fun _ h9 => h9) rfl dX6_numberBelow_5 ?_
  refine lv_isub hx hb dX6_numberBelow_8 ?_
  refine lv_iconst (v := 1) hx hb dX6_numberBelow_9 (by decide) ?_
  refine lv_icmp_ne (tgt := 24) hx hb dX6_numberBelow_10 (by decide) (fun c_1 => ?_) (fun c_1 => ?_)
  · have hr := x_iff hr c_1
    exact kX6_numberBelow_24 E0 a_this a_letters a_facts a_room x_clauses x_end x_start x_length x_letters n r_ret hr H locs ls hP hD hS (lv_sub hl [] rfl)
  · have hr := x_ift hr c_1
    refine lv_aload_n hx hb dX6_numberBelow_13 rfl (lv_at hl 0 rfl) ?_
    refine lv_aload_n hx hb dX6_numberBelow_14 rfl (lv_at hl 0 rfl) ?_
    refine va_get (D := D) (ci := 6) (v := .int x_start) (C := RX6) (T := TX6) (N := 7) hx hb hts inX6_numberBelow_X6 hown hK hP 0 rfl rfl 2 (by decide) (hts _ lkX6_numberBelow_f50) (fun _ h9 => h9) rfl dX6_numberBelow_15 ?_
    obtain ⟨q2_0, hc2, hr⟩ := x_bind hr
    refine x_runi (wr := []) (wf := [(a_this, .inr (6, [.ref a_letters, .int x_length, .int x_start, .int x_end, .int x_clauses, .ref a_facts, .ref a_room])), (a_letters, .inl (c 0, 200, .inl x_letters))]) (x_goV (As := [.int x_start]) (rest := []) ⟨hx, hb, hml, hown, hts⟩ (mX6_isDigit l D c a_this a_letters a_facts a_room H.size x_start x_end x_clauses x_length x_letters x_start n _ hc2) (cwV 1 hts gX6_numberBelow_X6_isDigit rfl rfl rfl (by decide +kernel) ⟨Nat.le_of_ble_eq_true rfl, Nat.le_of_ble_eq_true rfl⟩) xB_t hP hD hK [0, 1] rfl (by decide) (fun _ _ _ => trivial) 0 6 rfl rfl rfl rfl hl.1 rfl (Nat.le_of_ble_eq_true rfl) dX6_numberBelow_18) hP hD hS hA [0, 1] [] [0, 1] rfl rfl rfl ⟨by decide, by decide, by decide⟩ (fun H locs hP hD hS => ?_)
    refine lv_if_ne (tgt := 26) hx hb dX6_numberBelow_21 (by decide) (fun c_3 => ?_) (fun c_3 => ?_)
    · have hr := x_iff hr c_3
      refine lv_aload_n hx hb dX6_numberBelow_26 rfl (lv_at hl 0 rfl) ?_
      refine va_get (D := D) (ci := 6) (v := .ref a_letters) (C := RX6) (T := TX6) (N := 7) hx hb hts inX6_numberBelow_X6 hown hK hP 0 rfl rfl 0 (by decide) (hts _ lkX6_numberBelow_f9) (fun _ h9 => h9) rfl dX6_numberBelow_27 ?_
      refine lv_aload_n hx hb dX6_numberBelow_30 rfl (lv_at hl 0 rfl) ?_
      refine va_get (D := D) (ci := 6) (v := .int x_start) (C := RX6) (T := TX6) (N := 7) hx hb hts inX6_numberBelow_X6 hown hK hP 0 rfl rfl 2 (by decide) (hts _ lkX6_numberBelow_f50) (fun _ h9 => h9) rfl dX6_numberBelow_31 ?_
      obtain ⟨b_4, hr⟩ := x_chk hr
      refine va_iald hx hb hK hP 1 0 rfl rfl b_4 dX6_numberBelow_34 ?_
      refine lv_bipush (v := 48) hx hb dX6_numberBelow_35 (by decide) ?_
      refine lv_isub hx hb dX6_numberBelow_37 ?_
      refine lv_istore_n (lv' := [(2, .int ((x_letters x_start.toNatClampNeg) - 48)), (0, .ref a_this), (1, .int v1)]) hx hb dX6_numberBelow_38 rfl hl (by decide) rfl (fun ls hl => ?_)
      refine lv_iload_n hx hb dX6_numberBelow_39 rfl (lv_at hl 0 rfl) ?_
      refine lv_iload_n hx hb dX6_numberBelow_40 rfl (lv_at hl 2 rfl) ?_
      refine lv_icmp_ge (tgt := 48) hx hb dX6_numberBelow_41 (by decide) (fun c_5 => ?_) (fun c_5 => ?_)
      · have hr := x_ift hr c_5
        refine lv_iconst (v := (-1)) hx hb dX6_numberBelow_48 (by decide) ?_
        exact kX6_numberBelow_49 E0 a_this a_letters a_facts a_room x_clauses x_end x_start x_length x_letters n r_ret (-1) hr H locs ls hP hD hS (lv_sub hl [] rfl)
      · have hr := x_iff hr c_5
        refine lv_iload_n hx hb dX6_numberBelow_44 rfl (lv_at hl 0 rfl) ?_
        refine lv_goto (tgt := 49) hx hb dX6_numberBelow_45 (by decide) ?_
        exact kX6_numberBelow_49 E0 a_this a_letters a_facts a_room x_clauses x_end x_start x_length x_letters n r_ret ((x_letters x_start.toNatClampNeg) - 48) hr H locs ls hP hD hS (lv_sub hl [] rfl)
    · have hr := x_ift hr c_3
      exact kX6_numberBelow_24 E0 a_this a_letters a_facts a_room x_clauses x_end x_start x_length x_letters n r_ret hr H locs ls hP hD hS (lv_sub hl [] rfl)
set_option maxHeartbeats 4000000 in
set_option maxRecDepth 100000 in
theorem mX6_numberBelow (l : Launch) (D : va_G) (c : Nat → ClassId) (a_this : Nat) (a_letters : Nat) (a_facts : Nat) (a_room : Nat) (sz : Nat) (x_clauses : Int32) (x_end : Int32) (x_start : Int32) (x_length : Int32) (x_letters : Nat → Int32) (v1 : Int32) (n : Nat) (r_ret : Int32) (h : fX6_numberBelow n x_end x_start x_length x_letters v1 = some (r_ret)) : Met l yX6_numberBelow wsX6_numberBelow ({ frames := 1, cells := 0, slots := 0, locals := 21 } : Room) (xPc D (xT c) sz [.ref a_this, .int v1] (wX6_numberBelow c a_this a_letters a_facts a_room x_clauses x_end x_start x_length x_letters) (fun _ => True)) (xQi D (xT c) (va_A (wX6_numberBelow c a_this a_letters a_facts a_room x_clauses x_end x_start x_length x_letters) sz) r_ret (wX6_numberBelow c a_this a_letters a_facts a_room x_clauses x_end x_start x_length x_letters)) 0 0 (va_A (wX6_numberBelow c a_this a_letters a_facts a_room x_clauses x_end x_start x_length x_letters) sz) := by
  refine Met.ofW (cc := cX6_numberBelow) (maxL := 3) (ret := (some .int)) (by decide) rfl ?_
  intro p e s m args below meth cd s₁ B hml hv
  obtain ⟨rfl, hsz, hP, hK, hD0, hV⟩ := hv
  subst hsz
  have hl := lv_entry [.ref a_this, .int v1] (n := 3) (Nat.le_of_ble_eq_true rfl)
  rw [lg_entry_eq]
  exact kX6_numberBelow_0 (A := va_A (wX6_numberBelow c a_this a_letters a_facts a_room x_clauses x_end x_start x_length x_letters) s.heap.size) ⟨B.exec, B.bytes, hml, B.returns, findClass_of_methodNamed B.named, atoms_spec (ws := wsX6_numberBelow) B.pre, B.notSynchronized, fun q h => Or.inr h, hK⟩ a_this a_letters a_facts a_room x_clauses x_end x_start x_length x_letters n r_ret v1 h s.heap [] _ hP hD0.self va_S.rf hl

abbrev wX6_takeOn (c : Nat → ClassId) (a_this : Nat) (a_letters : Nat) (a_facts : Nat) (a_room : Nat) (a_room_knows : Nat) (a_room_kind : Nat) (a_room_on : Nat) (a_room_has : Nat) (x_clauses : Int32) (x_room_basin : Int32) (x_room_minute : Int32) (x_length : Int32) (x_letters : Nat → Int32) (x_room_leeches : Int32) (x_room_members : Int32) (x_start : Int32) (x_end : Int32) (x_room_on : Nat → Int32) : va_W := [(a_this, .inr (6, [.ref a_letters, .int x_length, .int x_start, .int x_end, .int x_clauses, .ref a_facts, .ref a_room])), (a_letters, .inl (c 0, 200, .inl x_letters)), (a_room, .inr (3, [.int x_room_members, .int x_room_leeches, .int x_room_basin, .int x_room_minute, .ref a_room_knows, .ref a_room_kind, .ref a_room_on, .ref a_room_has])), (a_room_on, .inl (c 0, 5, .inl x_room_on))]
def GX6_takeOn (p : Program) (l : Launch) (e : Env) (s : State) (m : MethodId) (args : Array Value) (below : List Frame) (meth : Method) (cd : Code) (D : va_G) (c : Nat → ClassId) (A : Nat → Prop) (a_this : Nat) (a_letters : Nat) (a_facts : Nat) (a_room : Nat) (a_room_knows : Nat) (a_room_kind : Nat) (a_room_on : Nat) (a_room_has : Nat) (x_clauses : Int32) (x_room_basin : Int32) (x_room_minute : Int32) (x_length : Int32) (x_letters : Nat → Int32) (x_room_leeches : Int32) (x_room_members : Int32) (r_ret : Int32) (rm_start : Int32) (rm_end : Int32) (rm_room_on : Nat → Int32) (pc : Nat) (st : List Value) (loc : List (Nat × Value)) (x_start : Int32) (x_end : Int32) (x_room_on : Nat → Int32) : Prop :=
  ∀ (H : Heap) (locs : List Loc) (ls : Array Slot), va_P D vwCl (wX6_takeOn c a_this a_letters a_facts a_room a_room_knows a_room_kind a_room_on a_room_has x_clauses x_room_basin x_room_minute x_length x_letters x_room_leeches x_room_members x_start x_end x_room_on) H → va_D A (wX6_takeOn c a_this a_letters a_facts a_room a_room_knows a_room_kind a_room_on a_room_has x_clauses x_room_basin x_room_minute x_length x_letters x_room_leeches x_room_members x_start x_end x_room_on) → va_S A s.heap H locs → lv_has ls 3 loc → W p l e ({ frames := 2, cells := 0, slots := 0, locals := 43 } : Room) s m args below meth cd H locs 0 0 (MQ below (xQi D (xT c) A r_ret (wX6_takeOn c a_this a_letters a_facts a_room a_room_knows a_room_kind a_room_on a_room_has x_clauses x_room_basin x_room_minute x_length x_letters x_room_leeches x_room_members rm_start rm_end rm_room_on)) args s 0 0 A) (F0 m pc ls st)
theorem lkX6_takeOn_f109 : Cond.fieldLink RX6 109 "LeechClub$Room" "members" "I" ∈ wsX6_takeOn := by decide +kernel
theorem lkX6_takeOn_f122 : Cond.fieldLink RX6 122 "LeechClub$Room" "leeches" "I" ∈ wsX6_takeOn := by decide +kernel
theorem lkX6_takeOn_f131 : Cond.fieldLink RX6 131 "LeechClub$Room" "on" "[I" ∈ wsX6_takeOn := by decide +kernel
theorem lkX6_takeOn_f25 : Cond.fieldLink RX6 25 "LeechClub$Text" "room" "LLeechClub$Room;" ∈ wsX6_takeOn := by decide +kernel
theorem inX6_takeOn_X3 : ∀ w ∈ wsX30, w ∈ wsX6_takeOn := by decide +kernel
theorem inX6_takeOn_X6 : ∀ w ∈ wsX60, w ∈ wsX6_takeOn := by decide +kernel
set_option maxHeartbeats 4000000 in
set_option maxRecDepth 100000 in
theorem kX6_takeOn_0 {p : Program} {l : Launch} {e : Env} {s : State} {m : MethodId} {args : Array Value} {below : List Frame} {meth : Method} {cd : Code} {D : va_G} {c : Nat → ClassId} {A : Nat → Prop} (E0 : xE p s m args meth cd D (xT c) A RX6 cX6_takeOn 3 (some .boolean) wsX6_takeOn) (a_this : Nat) (a_letters : Nat) (a_facts : Nat) (a_room : Nat) (a_room_knows : Nat) (a_room_kind : Nat) (a_room_on : Nat) (a_room_has : Nat) (x_clauses : Int32) (x_room_basin : Int32) (x_room_minute : Int32) (x_length : Int32) (x_letters : Nat → Int32) (x_room_leeches : Int32) (x_room_members : Int32) (n : Nat) (r_ret : Int32) (rm_start : Int32) (rm_end : Int32) (rm_room_on : Nat → Int32) (x_start : Int32) (x_end : Int32) (x_room_on : Nat → Int32) (hr : fX6_takeOn n x_length x_letters x_room_leeches x_room_members x_start x_end x_room_on = some (r_ret, rm_start, rm_end, rm_room_on)) : GX6_takeOn p l e s m args below meth cd D c A a_this a_letters a_facts a_room a_room_knows a_room_kind a_room_on a_room_has x_clauses x_room_basin x_room_minute x_length x_letters x_room_leeches x_room_members r_ret rm_start rm_end rm_room_on 0 [] [(0, .ref a_this)] x_start x_end x_room_on := by
  have E1 := E0
  obtain ⟨hx, hb, hml, hret, hown, hts, hlocks, hA, hK⟩ := E1
  intro H locs ls hP hD hS hl
  unfold fX6_takeOn at hr
  refine lv_aload_n hx hb dX6_takeOn_0 rfl (lv_at hl 0 rfl) ?_
  obtain ⟨⟨q1_0, q1_1⟩, hc1, hr⟩ := x_bind hr
  try dsimp only at hr
  refine x_runv (wr := [(a_room, .inr (3, [.int x_room_members, .int x_room_leeches, .int x_room_basin, .int x_room_minute, .ref a_room_knows, .ref a_room_kind, .ref a_room_on, .ref a_room_has])), (a_room_on, .inl (c 0, 5, .inl x_room_on))]) (wf := [(a_this, .inr (6, [.ref a_letters, .int x_length, .int q1_0, .int q1_1, .int x_clauses, .ref a_facts, .ref a_room])), (a_letters, .inl (c 0, 200, .inl x_letters)), (a_room, .inr (3, [.int x_room_members, .int x_room_leeches, .int x_room_basin, .int x_room_minute, .ref a_room_knows, .ref a_room_kind, .ref a_room_on, .ref a_room_has])), (a_room_on, .inl (c 0, 5, .inl x_room_on))]) (x_goV (As := []) (rest := []) ⟨hx, hb, hml, hown, hts⟩ (mX6_step l D c a_this a_letters a_facts a_room H.size x_clauses x_length x_letters x_start x_end n _ _ hc1) (cwV 0 hts gX6_takeOn_X6_step rfl rfl rfl (by decide +kernel) ⟨Nat.le_of_ble_eq_true rfl, Nat.le_of_ble_eq_true rfl⟩) xB_t hP hD hK [0, 1] rfl (by decide) (fun _ _ _ => trivial) 0 6 rfl rfl rfl rfl hl.1 rfl (Nat.le_of_ble_eq_true rfl) dX6_takeOn_1) hP hD hS hA [0, 1] [2, 3] [2, 3, 0, 1] rfl rfl rfl ⟨by decide, by decide, by decide⟩ (fun H locs hP hD hS => ?_)
  refine lv_aload_n hx hb dX6_takeOn_4 rfl (lv_at hl 0 rfl) ?_
  refine lv_aload_n hx hb dX6_takeOn_5 rfl (lv_at hl 0 rfl) ?_
  refine va_get (D := D) (ci := 6) (v := .ref a_room) (C := RX6) (T := TX6) (N := 7) hx hb hts inX6_takeOn_X6 hown hK hP 0 rfl rfl 6 (by decide) (hts _ lkX6_takeOn_f25) (fun _ h9 => h9) rfl dX6_takeOn_6 ?_
  refine va_get (D := D) (ci := 3) (v := .int x_room_leeches) (C := RX3) (T := TX3) (N := 8) hx hb hts inX6_takeOn_X3 hown hK hP 2 rfl rfl 1 (by decide) (hts _ lkX6_takeOn_f122) (fun _ h9 => h9) rfl dX6_takeOn_9 ?_
  obtain ⟨q2_0, hc2, hr⟩ := x_bind hr
  refine x_runi (wr := [(a_room, .inr (3, [.int x_room_members, .int x_room_leeches, .int x_room_basin, .int x_room_minute, .ref a_room_knows, .ref a_room_kind, .ref a_room_on, .ref a_room_has])), (a_room_on, .inl (c 0, 5, .inl x_room_on))]) (wf := [(a_this, .inr (6, [.ref a_letters, .int x_length, .int q1_0, .int q1_1, .int x_clauses, .ref a_facts, .ref a_room])), (a_letters, .inl (c 0, 200, .inl x_letters)), (a_room, .inr (3, [.int x_room_members, .int x_room_leeches, .int x_room_basin, .int x_room_minute, .ref a_room_knows, .ref a_room_kind, .ref a_room_on, .ref a_room_has])), (a_room_on, .inl (c 0, 5, .inl x_room_on))]) (x_goV (As := [.int x_room_leeches]) (rest := []) ⟨hx, hb, hml, hown, hts⟩ (mX6_numberBelow l D c a_this a_letters a_facts a_room H.size x_clauses q1_1 q1_0 x_length x_letters x_room_leeches n _ hc2) (cwV 1 hts gX6_takeOn_X6_numberBelow rfl rfl rfl (by decide +kernel) ⟨Nat.le_of_ble_eq_true rfl, Nat.le_of_ble_eq_true rfl⟩) xB_t hP hD hK [0, 1] rfl (by decide) (fun _ _ _ => trivial) 0 6 rfl rfl rfl rfl hl.1 rfl (Nat.le_of_ble_eq_true rfl) dX6_takeOn_12) hP hD hS hA [0, 1] [2, 3] [2, 3, 0, 1] rfl rfl rfl ⟨by decide, by decide, by decide⟩ (fun H locs hP hD hS => ?_)
  refine lv_istore_n (lv' := [(1, .int q2_0), (0, .ref a_this)]) hx hb dX6_takeOn_15 rfl hl (by decide) rfl (fun ls hl => ?_)
  refine lv_iload_n hx hb dX6_takeOn_16 rfl (lv_at hl 0 rfl) ?_
  refine lv_iconst (v := (-1)) hx hb dX6_takeOn_17 (by decide) ?_
  refine lv_icmp_ne (tgt := 23) hx hb dX6_takeOn_18 (by decide) (fun c_3 => ?_) (fun c_3 => ?_)
  · have hr := x_iff hr c_3
    refine lv_aload_n hx hb dX6_takeOn_23 rfl (lv_at hl 1 rfl) ?_
    obtain ⟨⟨q4_0, q4_1⟩, hc4, hr⟩ := x_bind hr
    try dsimp only at hr
    refine x_runv (wr := [(a_room, .inr (3, [.int x_room_members, .int x_room_leeches, .int x_room_basin, .int x_room_minute, .ref a_room_knows, .ref a_room_kind, .ref a_room_on, .ref a_room_has])), (a_room_on, .inl (c 0, 5, .inl x_room_on))]) (wf := [(a_this, .inr (6, [.ref a_letters, .int x_length, .int q4_0, .int q4_1, .int x_clauses, .ref a_facts, .ref a_room])), (a_letters, .inl (c 0, 200, .inl x_letters)), (a_room, .inr (3, [.int x_room_members, .int x_room_leeches, .int x_room_basin, .int x_room_minute, .ref a_room_knows, .ref a_room_kind, .ref a_room_on, .ref a_room_has])), (a_room_on, .inl (c 0, 5, .inl x_room_on))]) (x_goV (As := []) (rest := []) ⟨hx, hb, hml, hown, hts⟩ (mX6_step l D c a_this a_letters a_facts a_room H.size x_clauses x_length x_letters q1_0 q1_1 n _ _ hc4) (cwV 0 hts gX6_takeOn_X6_step rfl rfl rfl (by decide +kernel) ⟨Nat.le_of_ble_eq_true rfl, Nat.le_of_ble_eq_true rfl⟩) xB_t hP hD hK [0, 1] rfl (by decide) (fun _ _ _ => trivial) 0 6 rfl rfl rfl rfl hl.1 rfl (Nat.le_of_ble_eq_true rfl) dX6_takeOn_24) hP hD hS hA [0, 1] [2, 3] [2, 3, 0, 1] rfl rfl rfl ⟨by decide, by decide, by decide⟩ (fun H locs hP hD hS => ?_)
    refine lv_aload_n hx hb dX6_takeOn_27 rfl (lv_at hl 1 rfl) ?_
    refine lv_aload_n hx hb dX6_takeOn_28 rfl (lv_at hl 1 rfl) ?_
    refine va_get (D := D) (ci := 6) (v := .ref a_room) (C := RX6) (T := TX6) (N := 7) hx hb hts inX6_takeOn_X6 hown hK hP 0 rfl rfl 6 (by decide) (hts _ lkX6_takeOn_f25) (fun _ h9 => h9) rfl dX6_takeOn_29 ?_
    refine va_get (D := D) (ci := 3) (v := .int x_room_members) (C := RX3) (T := TX3) (N := 8) hx hb hts inX6_takeOn_X3 hown hK hP 2 rfl rfl 0 (by decide) (hts _ lkX6_takeOn_f109) (fun _ h9 => h9) rfl dX6_takeOn_32 ?_
    obtain ⟨q5_0, hc5, hr⟩ := x_bind hr
    refine x_runi (wr := [(a_room, .inr (3, [.int x_room_members, .int x_room_leeches, .int x_room_basin, .int x_room_minute, .ref a_room_knows, .ref a_room_kind, .ref a_room_on, .ref a_room_has])), (a_room_on, .inl (c 0, 5, .inl x_room_on))]) (wf := [(a_this, .inr (6, [.ref a_letters, .int x_length, .int q4_0, .int q4_1, .int x_clauses, .ref a_facts, .ref a_room])), (a_letters, .inl (c 0, 200, .inl x_letters)), (a_room, .inr (3, [.int x_room_members, .int x_room_leeches, .int x_room_basin, .int x_room_minute, .ref a_room_knows, .ref a_room_kind, .ref a_room_on, .ref a_room_has])), (a_room_on, .inl (c 0, 5, .inl x_room_on))]) (x_goV (As := [.int x_room_members]) (rest := []) ⟨hx, hb, hml, hown, hts⟩ (mX6_numberBelow l D c a_this a_letters a_facts a_room H.size x_clauses q4_1 q4_0 x_length x_letters x_room_members n _ hc5) (cwV 1 hts gX6_takeOn_X6_numberBelow rfl rfl rfl (by decide +kernel) ⟨Nat.le_of_ble_eq_true rfl, Nat.le_of_ble_eq_true rfl⟩) xB_t hP hD hK [0, 1] rfl (by decide) (fun _ _ _ => trivial) 0 6 rfl rfl rfl rfl hl.1 rfl (Nat.le_of_ble_eq_true rfl) dX6_takeOn_35) hP hD hS hA [0, 1] [2, 3] [2, 3, 0, 1] rfl rfl rfl ⟨by decide, by decide, by decide⟩ (fun H locs hP hD hS => ?_)
    refine lv_istore_n (lv' := [(2, .int q5_0), (1, .int q2_0), (0, .ref a_this)]) hx hb dX6_takeOn_38 rfl hl (by decide) rfl (fun ls hl => ?_)
    refine lv_iload_n hx hb dX6_takeOn_39 rfl (lv_at hl 0 rfl) ?_
    refine lv_iconst (v := (-1)) hx hb dX6_takeOn_40 (by decide) ?_
    refine lv_icmp_ne (tgt := 46) hx hb dX6_takeOn_41 (by decide) (fun c_6 => ?_) (fun c_6 => ?_)
    · have hr := x_iff hr c_6
      refine lv_aload_n hx hb dX6_takeOn_46 rfl (lv_at hl 2 rfl) ?_
      refine va_get (D := D) (ci := 6) (v := .ref a_room) (C := RX6) (T := TX6) (N := 7) hx hb hts inX6_takeOn_X6 hown hK hP 0 rfl rfl 6 (by decide) (hts _ lkX6_takeOn_f25) (fun _ h9 => h9) rfl dX6_takeOn_47 ?_
      refine va_get (D := D) (ci := 3) (v := .ref a_room_on) (C := RX3) (T := TX3) (N := 8) hx hb hts inX6_takeOn_X3 hown hK hP 2 rfl rfl 6 (by decide) (hts _ lkX6_takeOn_f131) (fun _ h9 => h9) rfl dX6_takeOn_50 ?_
      refine lv_iload_n hx hb dX6_takeOn_53 rfl (lv_at hl 1 rfl) ?_
      refine lv_iload_n hx hb dX6_takeOn_54 rfl (lv_at hl 0 rfl) ?_
      obtain ⟨b_7, hr⟩ := x_chk hr
      refine va_iast hx hb hK hP hD hS 3 0 rfl rfl b_7 dX6_takeOn_55 (fun H locs hP hD hS => ?_)
      have hP : va_P D vwCl [(a_this, .inr (6, [.ref a_letters, .int x_length, .int q4_0, .int q4_1, .int x_clauses, .ref a_facts, .ref a_room])), (a_letters, .inl (c 0, 200, .inl x_letters)), (a_room, .inr (3, [.int x_room_members, .int x_room_leeches, .int x_room_basin, .int x_room_minute, .ref a_room_knows, .ref a_room_kind, .ref a_room_on, .ref a_room_has])), (a_room_on, .inl (c 0, 5, .inl (upd x_room_on q2_0.toNatClampNeg q5_0)))] H := hP
      have hD : va_D A [(a_this, .inr (6, [.ref a_letters, .int x_length, .int q4_0, .int q4_1, .int x_clauses, .ref a_facts, .ref a_room])), (a_letters, .inl (c 0, 200, .inl x_letters)), (a_room, .inr (3, [.int x_room_members, .int x_room_leeches, .int x_room_basin, .int x_room_minute, .ref a_room_knows, .ref a_room_kind, .ref a_room_on, .ref a_room_has])), (a_room_on, .inl (c 0, 5, .inl (upd x_room_on q2_0.toNatClampNeg q5_0)))] := hD
      refine lv_aload_n hx hb dX6_takeOn_56 rfl (lv_at hl 2 rfl) ?_
      obtain ⟨⟨q8_0, q8_1⟩, hc8, hr⟩ := x_bind hr
      try dsimp only at hr
      refine x_runv (wr := [(a_room, .inr (3, [.int x_room_members, .int x_room_leeches, .int x_room_basin, .int x_room_minute, .ref a_room_knows, .ref a_room_kind, .ref a_room_on, .ref a_room_has])), (a_room_on, .inl (c 0, 5, .inl (upd x_room_on q2_0.toNatClampNeg q5_0)))]) (wf := [(a_this, .inr (6, [.ref a_letters, .int x_length, .int q8_0, .int q8_1, .int x_clauses, .ref a_facts, .ref a_room])), (a_letters, .inl (c 0, 200, .inl x_letters)), (a_room, .inr (3, [.int x_room_members, .int x_room_leeches, .int x_room_basin, .int x_room_minute, .ref a_room_knows, .ref a_room_kind, .ref a_room_on, .ref a_room_has])), (a_room_on, .inl (c 0, 5, .inl (upd x_room_on q2_0.toNatClampNeg q5_0)))]) (x_goV (As := []) (rest := []) ⟨hx, hb, hml, hown, hts⟩ (mX6_step l D c a_this a_letters a_facts a_room H.size x_clauses x_length x_letters q4_0 q4_1 n _ _ hc8) (cwV 0 hts gX6_takeOn_X6_step rfl rfl rfl (by decide +kernel) ⟨Nat.le_of_ble_eq_true rfl, Nat.le_of_ble_eq_true rfl⟩) xB_t hP hD hK [0, 1] rfl (by decide) (fun _ _ _ => trivial) 0 6 rfl rfl rfl rfl hl.1 rfl (Nat.le_of_ble_eq_true rfl) dX6_takeOn_57) hP hD hS hA [0, 1] [2, 3] [2, 3, 0, 1] rfl rfl rfl ⟨by decide, by decide, by decide⟩ (fun H locs hP hD hS => ?_)
      refine lv_iconst (v := 1) hx hb dX6_takeOn_60 (by decide) ?_
      have g0 := x_some hr
      have e0 := x_p1 g0
      have g1 := x_p2 g0
      have e1 := x_p1 g1
      have g2 := x_p2 g1
      have e2 := x_p1 g2
      have e3 := x_p2 g2
      subst e0
      subst e1
      subst e2
      subst e3
      exact x_retz hx hb hret rfl hlocks hP hD hK hS dX6_takeOn_61
    · have hr := x_ift hr c_6
      refine lv_iconst (v := 0) hx hb dX6_takeOn_44 (by decide) ?_
      have g0 := x_some hr
      have e0 := x_p1 g0
      have g1 := x_p2 g0
      have e1 := x_p1 g1
      have g2 := x_p2 g1
      have e2 := x_p1 g2
      have e3 := x_p2 g2
      subst e0
      subst e1
      subst e2
      subst e3
      exact x_retz hx hb hret rfl hlocks hP hD hK hS dX6_takeOn_45
  · have hr := x_ift hr c_3
    refine lv_iconst (v := 0) hx hb dX6_takeOn_21 (by decide) ?_
    have g0 := x_some hr
    have e0 := x_p1 g0
    have g1 := x_p2 g0
    have e1 := x_p1 g1
    have g2 := x_p2 g1
    have e2 := x_p1 g2
    have e3 := x_p2 g2
    subst e0
    subst e1
    subst e2
    subst e3
    exact x_retz hx hb hret rfl hlocks hP hD hK hS dX6_takeOn_22
set_option maxHeartbeats 4000000 in
set_option maxRecDepth 100000 in
theorem mX6_takeOn (l : Launch) (D : va_G) (c : Nat → ClassId) (a_this : Nat) (a_letters : Nat) (a_facts : Nat) (a_room : Nat) (a_room_knows : Nat) (a_room_kind : Nat) (a_room_on : Nat) (a_room_has : Nat) (sz : Nat) (x_clauses : Int32) (x_room_basin : Int32) (x_room_minute : Int32) (x_length : Int32) (x_letters : Nat → Int32) (x_room_leeches : Int32) (x_room_members : Int32) (x_start : Int32) (x_end : Int32) (x_room_on : Nat → Int32) (n : Nat) (r_ret : Int32) (rm_start : Int32) (rm_end : Int32) (rm_room_on : Nat → Int32) (h : fX6_takeOn n x_length x_letters x_room_leeches x_room_members x_start x_end x_room_on = some (r_ret, rm_start, rm_end, rm_room_on)) : Met l yX6_takeOn wsX6_takeOn ({ frames := 2, cells := 0, slots := 0, locals := 43 } : Room) (xPc D (xT c) sz [.ref a_this] (wX6_takeOn c a_this a_letters a_facts a_room a_room_knows a_room_kind a_room_on a_room_has x_clauses x_room_basin x_room_minute x_length x_letters x_room_leeches x_room_members x_start x_end x_room_on) (fun _ => True)) (xQi D (xT c) (va_A (wX6_takeOn c a_this a_letters a_facts a_room a_room_knows a_room_kind a_room_on a_room_has x_clauses x_room_basin x_room_minute x_length x_letters x_room_leeches x_room_members x_start x_end x_room_on) sz) r_ret (wX6_takeOn c a_this a_letters a_facts a_room a_room_knows a_room_kind a_room_on a_room_has x_clauses x_room_basin x_room_minute x_length x_letters x_room_leeches x_room_members rm_start rm_end rm_room_on)) 0 0 (va_A (wX6_takeOn c a_this a_letters a_facts a_room a_room_knows a_room_kind a_room_on a_room_has x_clauses x_room_basin x_room_minute x_length x_letters x_room_leeches x_room_members x_start x_end x_room_on) sz) := by
  refine Met.ofW (cc := cX6_takeOn) (maxL := 3) (ret := (some .boolean)) (by decide) rfl ?_
  intro p e s m args below meth cd s₁ B hml hv
  obtain ⟨rfl, hsz, hP, hK, hD0, hV⟩ := hv
  subst hsz
  have hl := lv_entry [.ref a_this] (n := 3) (Nat.le_of_ble_eq_true rfl)
  rw [lg_entry_eq]
  exact kX6_takeOn_0 (A := va_A (wX6_takeOn c a_this a_letters a_facts a_room a_room_knows a_room_kind a_room_on a_room_has x_clauses x_room_basin x_room_minute x_length x_letters x_room_leeches x_room_members x_start x_end x_room_on) s.heap.size) ⟨B.exec, B.bytes, hml, B.returns, findClass_of_methodNamed B.named, atoms_spec (ws := wsX6_takeOn) B.pre, B.notSynchronized, fun q h => Or.inr h, hK⟩ a_this a_letters a_facts a_room a_room_knows a_room_kind a_room_on a_room_has x_clauses x_room_basin x_room_minute x_length x_letters x_room_leeches x_room_members n r_ret rm_start rm_end rm_room_on x_start x_end x_room_on h s.heap [] _ hP hD0.self va_S.rf hl

