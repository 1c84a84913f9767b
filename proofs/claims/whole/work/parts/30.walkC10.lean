abbrev wX6_takeClause (c : Nat → ClassId) (a_this : Nat) (a_letters : Nat) (a_facts : Nat) (a_room : Nat) (a_room_knows : Nat) (a_room_kind : Nat) (a_room_on : Nat) (a_room_has : Nat) (a_facts_leans : Nat) (a_facts_all : Nat) (a_facts_lostWith : Nat) (ev : Nat → Nat) (x_clauses : Int32) (x_letters : Nat → Int32) (x_length : Int32) (x_room_kind : Nat → Int32) (x_room_on : Nat → Int32) (x_room_has : Nat → Int32) (x_room_leeches : Int32) (x_start : Int32) (x_end : Int32) (x_room_knows : Nat → Int32) (x_room_members : Int32) (x_facts_leans : Nat → Int32) (x_facts_all : Nat → Int32) (x_facts_lostWith : Nat → Int32) (x_facts_size : Int32) (x_room_basin : Int32) (x_room_minute : Int32) : va_W := [(a_this, .inr (6, [.ref a_letters, .int x_length, .int x_start, .int x_end, .int x_clauses, .ref a_facts, .ref a_room])), (a_letters, .inl (c 0, 200, .inl x_letters)), (a_room, .inr (3, [.int x_room_members, .int x_room_leeches, .int x_room_basin, .int x_room_minute, .ref a_room_knows, .ref a_room_kind, .ref a_room_on, .ref a_room_has])), (a_room_kind, .inl (c 0, 5, .inl x_room_kind)), (a_room_on, .inl (c 0, 5, .inl x_room_on)), (a_room_has, .inl (c 0, 5, .inl x_room_has)), (a_facts, .inr (0, [.int x_facts_size, .ref a_facts_leans, .ref a_facts_all, .ref a_facts_lostWith])), (a_facts_all, .inl (c 0, 12, .inl x_facts_all)), (a_room_knows, .inl (c 0, 4, .inl x_room_knows)), (a_facts_leans, .inl (c 0, 12, .inl x_facts_leans)), (a_facts_lostWith, .inl (c 0, 12, .inl x_facts_lostWith))]
def GX6_takeClause (p : Program) (l : Launch) (e : Env) (s : State) (m : MethodId) (args : Array Value) (below : List Frame) (meth : Method) (cd : Code) (D : va_G) (c : Nat → ClassId) (A : Nat → Prop) (a_this : Nat) (a_letters : Nat) (a_facts : Nat) (a_room : Nat) (a_room_knows : Nat) (a_room_kind : Nat) (a_room_on : Nat) (a_room_has : Nat) (a_facts_leans : Nat) (a_facts_all : Nat) (a_facts_lostWith : Nat) (ev : Nat → Nat) (x_clauses : Int32) (x_letters : Nat → Int32) (x_length : Int32) (r_ret : Int32) (rm_room_kind : Nat → Int32) (rm_room_on : Nat → Int32) (rm_room_has : Nat → Int32) (rm_room_leeches : Int32) (rm_start : Int32) (rm_end : Int32) (rm_room_knows : Nat → Int32) (rm_room_members : Int32) (rm_facts_leans : Nat → Int32) (rm_facts_all : Nat → Int32) (rm_facts_lostWith : Nat → Int32) (rm_facts_size : Int32) (rm_room_basin : Int32) (rm_room_minute : Int32) (pc : Nat) (st : List Value) (loc : List (Nat × Value)) (x_room_kind : Nat → Int32) (x_room_on : Nat → Int32) (x_room_has : Nat → Int32) (x_room_leeches : Int32) (x_start : Int32) (x_end : Int32) (x_room_knows : Nat → Int32) (x_room_members : Int32) (x_facts_leans : Nat → Int32) (x_facts_all : Nat → Int32) (x_facts_lostWith : Nat → Int32) (x_facts_size : Int32) (x_room_basin : Int32) (x_room_minute : Int32) : Prop :=
  ∀ (H : Heap) (locs : List Loc) (ls : Array Slot), va_P D vwCl (wX6_takeClause c a_this a_letters a_facts a_room a_room_knows a_room_kind a_room_on a_room_has a_facts_leans a_facts_all a_facts_lostWith ev x_clauses x_letters x_length x_room_kind x_room_on x_room_has x_room_leeches x_start x_end x_room_knows x_room_members x_facts_leans x_facts_all x_facts_lostWith x_facts_size x_room_basin x_room_minute) H → va_D A (wX6_takeClause c a_this a_letters a_facts a_room a_room_knows a_room_kind a_room_on a_room_has a_facts_leans a_facts_all a_facts_lostWith ev x_clauses x_letters x_length x_room_kind x_room_on x_room_has x_room_leeches x_start x_end x_room_knows x_room_members x_facts_leans x_facts_all x_facts_lostWith x_facts_size x_room_basin x_room_minute) → va_S A s.heap H locs → lv_has ls 1 loc → W p l e ({ frames := 12, cells := 0, slots := 0, locals := 324 } : Room) s m args below meth cd H locs 0 0 (MQ below (xQi D (xT c) A r_ret (wX6_takeClause c a_this a_letters a_facts a_room a_room_knows a_room_kind a_room_on a_room_has a_facts_leans a_facts_all a_facts_lostWith ev x_clauses x_letters x_length rm_room_kind rm_room_on rm_room_has rm_room_leeches rm_start rm_end rm_room_knows rm_room_members rm_facts_leans rm_facts_all rm_facts_lostWith rm_facts_size rm_room_basin rm_room_minute)) args s 0 0 A) (F0 m pc ls st)
theorem lkX6_takeClause_f18 : Cond.fieldLink RX6 18 "LeechClub$Text" "facts" "LLeechClub$Facts;" ∈ wsX6_takeClause := by decide +kernel
theorem lkX6_takeClause_f25 : Cond.fieldLink RX6 25 "LeechClub$Text" "room" "LLeechClub$Room;" ∈ wsX6_takeClause := by decide +kernel
theorem lkX6_takeClause_f78 : Cond.fieldLink RX6 78 "LeechClub$Facts" "size" "I" ∈ wsX6_takeClause := by decide +kernel
theorem inX6_takeClause_X0 : ∀ w ∈ wsX00, w ∈ wsX6_takeClause := by decide +kernel
theorem inX6_takeClause_X6 : ∀ w ∈ wsX60, w ∈ wsX6_takeClause := by decide +kernel
set_option maxHeartbeats 4000000 in
set_option maxRecDepth 100000 in
theorem kX6_takeClause_0 {p : Program} {l : Launch} {e : Env} {s : State} {m : MethodId} {args : Array Value} {below : List Frame} {meth : Method} {cd : Code} {D : va_G} {c : Nat → ClassId} {A : Nat → Prop} (E0 : xE p s m args meth cd D (xT c) A RX6 cX6_takeClause 1 (some .boolean) wsX6_takeClause) (a_this : Nat) (a_letters : Nat) (a_facts : Nat) (a_room : Nat) (a_room_knows : Nat) (a_room_kind : Nat) (a_room_on : Nat) (a_room_has : Nat) (a_facts_leans : Nat) (a_facts_all : Nat) (a_facts_lostWith : Nat) (ev : Nat → Nat) (x_clauses : Int32) (x_letters : Nat → Int32) (x_length : Int32) (n : Nat) (r_ret : Int32) (rm_room_kind : Nat → Int32) (rm_room_on : Nat → Int32) (rm_room_has : Nat → Int32) (rm_room_leeches : Int32) (rm_start : Int32) (rm_end : Int32) (rm_room_knows : Nat → Int32) (rm_room_members : Int32) (rm_facts_leans : Nat → Int32) (rm_facts_all : Nat → Int32) (rm_facts_lostWith : Nat → Int32) (rm_facts_size : Int32) (rm_room_basin : Int32) (rm_room_minute : Int32) (hV : xV ev A s) (x_room_kind : Nat → Int32) (x_room_on : Nat → Int32) (x_room_has : Nat → Int32) (x_room_leeches : Int32) (x_start : Int32) (x_end : Int32) (x_room_knows : Nat → Int32) (x_room_members : Int32) (x_facts_leans : Nat → Int32) (x_facts_all : Nat → Int32) (x_facts_lostWith : Nat → Int32) (x_facts_size : Int32) (x_room_basin : Int32) (x_room_minute : Int32) (hr : fX6_takeClause n x_letters x_length x_room_kind x_room_on x_room_has x_room_leeches x_start x_end x_room_knows x_room_members x_facts_leans x_facts_all x_facts_lostWith x_facts_size x_room_basin x_room_minute = some (r_ret, rm_room_kind, rm_room_on, rm_room_has, rm_room_leeches, rm_start, rm_end, rm_room_knows, rm_room_members, rm_facts_leans, rm_facts_all, rm_facts_lostWith, rm_facts_size, rm_room_basin, rm_room_minute)) : GX6_takeClause p l e s m args below meth cd D c A a_this a_letters a_facts a_room a_room_knows a_room_kind a_room_on a_room_has a_facts_leans a_facts_all a_facts_lostWith ev x_clauses x_letters x_length r_ret rm_room_kind rm_room_on rm_room_has rm_room_leeches rm_start rm_end rm_room_knows rm_room_members rm_facts_leans rm_facts_all rm_facts_lostWith rm_facts_size rm_room_basin rm_room_minute 0 [] [(0, .ref a_this)] x_room_kind x_room_on x_room_has x_room_leeches x_start x_end x_room_knows x_room_members x_facts_leans x_facts_all x_facts_lostWith x_facts_size x_room_basin x_room_minute := by
  have E1 := E0
  obtain ⟨hx, hb, hml, hret, hown, hts, hlocks, hA, hK⟩ := E1
  have hVV := hV
  obtain ⟨hn_RX7_9, hn_RX6_17, hn_RX6_24, hn_RX7_18, hn_RX7_25, hn_RX7_45, hn_RX7_52, hn_RX7_65, hn_RX7_70, hn_RX0_31, hn_RX3_53, hn_RX2_57, hn_RX3_65, hn_RX3_86, hz_TAKES, ht_TAKES, hz_HAS_ROOM, ht_HAS_ROOM, hz_SUCH, ht_SUCH, hz_FIRST_FIGURE, ht_FIRST_FIGURE, hz_compact, hz_sioobe, ho_Room, ho_Slate, ho_grid, hstr, hs_0, hs_1, hs_2, hs_3, hs_4, hs_5, hs_6, hs_7, hs_8⟩ := hVV
  intro H locs ls hP hD hS hl
  unfold fX6_takeClause at hr
  refine lv_aload_n hx hb dX6_takeClause_0 rfl (lv_at hl 0 rfl) ?_
  refine va_ldcS hx hb hown hs_0 dX6_takeClause_1 ?_
  obtain ⟨q1_0, hc1, hr⟩ := x_bind hr
  refine x_runi (wr := [(a_room, .inr (3, [.int x_room_members, .int x_room_leeches, .int x_room_basin, .int x_room_minute, .ref a_room_knows, .ref a_room_kind, .ref a_room_on, .ref a_room_has])), (a_room_kind, .inl (c 0, 5, .inl x_room_kind)), (a_room_on, .inl (c 0, 5, .inl x_room_on)), (a_room_has, .inl (c 0, 5, .inl x_room_has)), (a_facts, .inr (0, [.int x_facts_size, .ref a_facts_leans, .ref a_facts_all, .ref a_facts_lostWith])), (a_facts_all, .inl (c 0, 12, .inl x_facts_all)), (a_room_knows, .inl (c 0, 4, .inl x_room_knows)), (a_facts_leans, .inl (c 0, 12, .inl x_facts_leans)), (a_facts_lostWith, .inl (c 0, 12, .inl x_facts_lostWith))]) (wf := [(a_this, .inr (6, [.ref a_letters, .int x_length, .int x_start, .int x_end, .int x_clauses, .ref a_facts, .ref a_room])), (a_letters, .inl (c 0, 200, .inl x_letters)), (a_room, .inr (3, [.int x_room_members, .int x_room_leeches, .int x_room_basin, .int x_room_minute, .ref a_room_knows, .ref a_room_kind, .ref a_room_on, .ref a_room_has])), (a_room_kind, .inl (c 0, 5, .inl x_room_kind)), (a_room_on, .inl (c 0, 5, .inl x_room_on)), (a_room_has, .inl (c 0, 5, .inl x_room_has)), (a_facts, .inr (0, [.int x_facts_size, .ref a_facts_leans, .ref a_facts_all, .ref a_facts_lostWith])), (a_facts_all, .inl (c 0, 12, .inl x_facts_all)), (a_room_knows, .inl (c 0, 4, .inl x_room_knows)), (a_facts_leans, .inl (c 0, 12, .inl x_facts_leans)), (a_facts_lostWith, .inl (c 0, 12, .inl x_facts_lostWith))]) (x_goV (As := [.ref (ev (10 + 0))]) (rest := []) ⟨hx, hb, hml, hown, hts⟩ (mX6_isWord l D c a_this a_letters a_facts a_room ev H.size x_length x_clauses 0 x_end x_start x_letters n _ hc1 (by decide)) (cwV 1 hts gX6_takeClause_X6_isWord rfl rfl rfl (by decide +kernel) ⟨Nat.le_of_ble_eq_true rfl, Nat.le_of_ble_eq_true rfl⟩) xV_b hP hD hK [0, 1] rfl (by decide) (fun U hU hW => xV_call hV hS (va_free hD hS hA [0, 1] rfl) hU hW) 0 6 rfl rfl rfl rfl hl.1 rfl (Nat.le_of_ble_eq_true rfl) dX6_takeClause_3) hP hD hS hA [0, 1] [2, 3, 4, 5, 6, 7, 8, 9, 10] [9, 10, 0, 1, 2, 3, 4, 5, 6, 7, 8] rfl rfl rfl ⟨by decide, by decide, by decide⟩ (fun H locs hP hD hS => ?_)
  refine lv_if_eq (tgt := 30) hx hb dX6_takeClause_6 (by decide) (fun c_2 => ?_) (fun c_2 => ?_)
  · have hr := x_ift hr c_2
    refine lv_aload_n hx hb dX6_takeClause_30 rfl (lv_at hl 0 rfl) ?_
    refine va_ldcS hx hb hown hs_1 dX6_takeClause_31 ?_
    obtain ⟨q3_0, hc3, hr⟩ := x_bind hr
    refine x_runi (wr := [(a_room, .inr (3, [.int x_room_members, .int x_room_leeches, .int x_room_basin, .int x_room_minute, .ref a_room_knows, .ref a_room_kind, .ref a_room_on, .ref a_room_has])), (a_room_kind, .inl (c 0, 5, .inl x_room_kind)), (a_room_on, .inl (c 0, 5, .inl x_room_on)), (a_room_has, .inl (c 0, 5, .inl x_room_has)), (a_facts, .inr (0, [.int x_facts_size, .ref a_facts_leans, .ref a_facts_all, .ref a_facts_lostWith])), (a_facts_all, .inl (c 0, 12, .inl x_facts_all)), (a_room_knows, .inl (c 0, 4, .inl x_room_knows)), (a_facts_leans, .inl (c 0, 12, .inl x_facts_leans)), (a_facts_lostWith, .inl (c 0, 12, .inl x_facts_lostWith))]) (wf := [(a_this, .inr (6, [.ref a_letters, .int x_length, .int x_start, .int x_end, .int x_clauses, .ref a_facts, .ref a_room])), (a_letters, .inl (c 0, 200, .inl x_letters)), (a_room, .inr (3, [.int x_room_members, .int x_room_leeches, .int x_room_basin, .int x_room_minute, .ref a_room_knows, .ref a_room_kind, .ref a_room_on, .ref a_room_has])), (a_room_kind, .inl (c 0, 5, .inl x_room_kind)), (a_room_on, .inl (c 0, 5, .inl x_room_on)), (a_room_has, .inl (c 0, 5, .inl x_room_has)), (a_facts, .inr (0, [.int x_facts_size, .ref a_facts_leans, .ref a_facts_all, .ref a_facts_lostWith])), (a_facts_all, .inl (c 0, 12, .inl x_facts_all)), (a_room_knows, .inl (c 0, 4, .inl x_room_knows)), (a_facts_leans, .inl (c 0, 12, .inl x_facts_leans)), (a_facts_lostWith, .inl (c 0, 12, .inl x_facts_lostWith))]) (x_goV (As := [.ref (ev (10 + 1))]) (rest := []) ⟨hx, hb, hml, hown, hts⟩ (mX6_isWord l D c a_this a_letters a_facts a_room ev H.size x_length x_clauses 1 x_end x_start x_letters n _ hc3 (by decide)) (cwV 1 hts gX6_takeClause_X6_isWord rfl rfl rfl (by decide +kernel) ⟨Nat.le_of_ble_eq_true rfl, Nat.le_of_ble_eq_true rfl⟩) xV_b hP hD hK [0, 1] rfl (by decide) (fun U hU hW => xV_call hV hS (va_free hD hS hA [0, 1] rfl) hU hW) 0 6 rfl rfl rfl rfl hl.1 rfl (Nat.le_of_ble_eq_true rfl) dX6_takeClause_33) hP hD hS hA [0, 1] [2, 3, 4, 5, 6, 7, 8, 9, 10] [9, 10, 0, 1, 2, 3, 4, 5, 6, 7, 8] rfl rfl rfl ⟨by decide, by decide, by decide⟩ (fun H locs hP hD hS => ?_)
    refine lv_if_eq (tgt := 44) hx hb dX6_takeClause_36 (by decide) (fun c_4 => ?_) (fun c_4 => ?_)
    · have hr := x_ift hr c_4
      refine lv_aload_n hx hb dX6_takeClause_44 rfl (lv_at hl 0 rfl) ?_
      refine va_ldcS hx hb hown hs_2 dX6_takeClause_45 ?_
      obtain ⟨q5_0, hc5, hr⟩ := x_bind hr
      refine x_runi (wr := [(a_room, .inr (3, [.int x_room_members, .int x_room_leeches, .int x_room_basin, .int x_room_minute, .ref a_room_knows, .ref a_room_kind, .ref a_room_on, .ref a_room_has])), (a_room_kind, .inl (c 0, 5, .inl x_room_kind)), (a_room_on, .inl (c 0, 5, .inl x_room_on)), (a_room_has, .inl (c 0, 5, .inl x_room_has)), (a_facts, .inr (0, [.int x_facts_size, .ref a_facts_leans, .ref a_facts_all, .ref a_facts_lostWith])), (a_facts_all, .inl (c 0, 12, .inl x_facts_all)), (a_room_knows, .inl (c 0, 4, .inl x_room_knows)), (a_facts_leans, .inl (c 0, 12, .inl x_facts_leans)), (a_facts_lostWith, .inl (c 0, 12, .inl x_facts_lostWith))]) (wf := [(a_this, .inr (6, [.ref a_letters, .int x_length, .int x_start, .int x_end, .int x_clauses, .ref a_facts, .ref a_room])), (a_letters, .inl (c 0, 200, .inl x_letters)), (a_room, .inr (3, [.int x_room_members, .int x_room_leeches, .int x_room_basin, .int x_room_minute, .ref a_room_knows, .ref a_room_kind, .ref a_room_on, .ref a_room_has])), (a_room_kind, .inl (c 0, 5, .inl x_room_kind)), (a_room_on, .inl (c 0, 5, .inl x_room_on)), (a_room_has, .inl (c 0, 5, .inl x_room_has)), (a_facts, .inr (0, [.int x_facts_size, .ref a_facts_leans, .ref a_facts_all, .ref a_facts_lostWith])), (a_facts_all, .inl (c 0, 12, .inl x_facts_all)), (a_room_knows, .inl (c 0, 4, .inl x_room_knows)), (a_facts_leans, .inl (c 0, 12, .inl x_facts_leans)), (a_facts_lostWith, .inl (c 0, 12, .inl x_facts_lostWith))]) (x_goV (As := [.ref (ev (10 + 2))]) (rest := []) ⟨hx, hb, hml, hown, hts⟩ (mX6_isWord l D c a_this a_letters a_facts a_room ev H.size x_length x_clauses 2 x_end x_start x_letters n _ hc5 (by decide)) (cwV 1 hts gX6_takeClause_X6_isWord rfl rfl rfl (by decide +kernel) ⟨Nat.le_of_ble_eq_true rfl, Nat.le_of_ble_eq_true rfl⟩) xV_b hP hD hK [0, 1] rfl (by decide) (fun U hU hW => xV_call hV hS (va_free hD hS hA [0, 1] rfl) hU hW) 0 6 rfl rfl rfl rfl hl.1 rfl (Nat.le_of_ble_eq_true rfl) dX6_takeClause_47) hP hD hS hA [0, 1] [2, 3, 4, 5, 6, 7, 8, 9, 10] [9, 10, 0, 1, 2, 3, 4, 5, 6, 7, 8] rfl rfl rfl ⟨by decide, by decide, by decide⟩ (fun H locs hP hD hS => ?_)
      refine lv_if_eq (tgt := 58) hx hb dX6_takeClause_50 (by decide) (fun c_6 => ?_) (fun c_6 => ?_)
      · have hr := x_ift hr c_6
        refine lv_aload_n hx hb dX6_takeClause_58 rfl (lv_at hl 0 rfl) ?_
        refine va_ldcS hx hb hown hs_3 dX6_takeClause_59 ?_
        obtain ⟨q7_0, hc7, hr⟩ := x_bind hr
        refine x_runi (wr := [(a_room, .inr (3, [.int x_room_members, .int x_room_leeches, .int x_room_basin, .int x_room_minute, .ref a_room_knows, .ref a_room_kind, .ref a_room_on, .ref a_room_has])), (a_room_kind, .inl (c 0, 5, .inl x_room_kind)), (a_room_on, .inl (c 0, 5, .inl x_room_on)), (a_room_has, .inl (c 0, 5, .inl x_room_has)), (a_facts, .inr (0, [.int x_facts_size, .ref a_facts_leans, .ref a_facts_all, .ref a_facts_lostWith])), (a_facts_all, .inl (c 0, 12, .inl x_facts_all)), (a_room_knows, .inl (c 0, 4, .inl x_room_knows)), (a_facts_leans, .inl (c 0, 12, .inl x_facts_leans)), (a_facts_lostWith, .inl (c 0, 12, .inl x_facts_lostWith))]) (wf := [(a_this, .inr (6, [.ref a_letters, .int x_length, .int x_start, .int x_end, .int x_clauses, .ref a_facts, .ref a_room])), (a_letters, .inl (c 0, 200, .inl x_letters)), (a_room, .inr (3, [.int x_room_members, .int x_room_leeches, .int x_room_basin, .int x_room_minute, .ref a_room_knows, .ref a_room_kind, .ref a_room_on, .ref a_room_has])), (a_room_kind, .inl (c 0, 5, .inl x_room_kind)), (a_room_on, .inl (c 0, 5, .inl x_room_on)), (a_room_has, .inl (c 0, 5, .inl x_room_has)), (a_facts, .inr (0, [.int x_facts_size, .ref a_facts_leans, .ref a_facts_all, .ref a_facts_lostWith])), (a_facts_all, .inl (c 0, 12, .inl x_facts_all)), (a_room_knows, .inl (c 0, 4, .inl x_room_knows)), (a_facts_leans, .inl (c 0, 12, .inl x_facts_leans)), (a_facts_lostWith, .inl (c 0, 12, .inl x_facts_lostWith))]) (x_goV (As := [.ref (ev (10 + 3))]) (rest := []) ⟨hx, hb, hml, hown, hts⟩ (mX6_isWord l D c a_this a_letters a_facts a_room ev H.size x_length x_clauses 3 x_end x_start x_letters n _ hc7 (by decide)) (cwV 1 hts gX6_takeClause_X6_isWord rfl rfl rfl (by decide +kernel) ⟨Nat.le_of_ble_eq_true rfl, Nat.le_of_ble_eq_true rfl⟩) xV_b hP hD hK [0, 1] rfl (by decide) (fun U hU hW => xV_call hV hS (va_free hD hS hA [0, 1] rfl) hU hW) 0 6 rfl rfl rfl rfl hl.1 rfl (Nat.le_of_ble_eq_true rfl) dX6_takeClause_61) hP hD hS hA [0, 1] [2, 3, 4, 5, 6, 7, 8, 9, 10] [9, 10, 0, 1, 2, 3, 4, 5, 6, 7, 8] rfl rfl rfl ⟨by decide, by decide, by decide⟩ (fun H locs hP hD hS => ?_)
        refine lv_if_eq (tgt := 72) hx hb dX6_takeClause_64 (by decide) (fun c_8 => ?_) (fun c_8 => ?_)
        · have hr := x_ift hr c_8
          refine lv_aload_n hx hb dX6_takeClause_72 rfl (lv_at hl 0 rfl) ?_
          obtain ⟨⟨q9_0, q9_1, q9_2, q9_3, q9_4, q9_5, q9_6⟩, hc9, hr⟩ := x_bind hr
          try dsimp only at hr
          refine x_runi (wr := [(a_facts, .inr (0, [.int x_facts_size, .ref a_facts_leans, .ref a_facts_all, .ref a_facts_lostWith])), (a_facts_all, .inl (c 0, 12, .inl x_facts_all)), (a_room_knows, .inl (c 0, 4, .inl x_room_knows)), (a_facts_leans, .inl (c 0, 12, .inl x_facts_leans)), (a_facts_lostWith, .inl (c 0, 12, .inl x_facts_lostWith))]) (wf := [(a_this, .inr (6, [.ref a_letters, .int x_length, .int q9_5, .int q9_6, .int x_clauses, .ref a_facts, .ref a_room])), (a_letters, .inl (c 0, 200, .inl x_letters)), (a_room, .inr (3, [.int x_room_members, .int q9_4, .int x_room_basin, .int x_room_minute, .ref a_room_knows, .ref a_room_kind, .ref a_room_on, .ref a_room_has])), (a_room_kind, .inl (c 0, 5, .inl q9_1)), (a_room_on, .inl (c 0, 5, .inl q9_2)), (a_room_has, .inl (c 0, 5, .inl q9_3)), (a_facts, .inr (0, [.int x_facts_size, .ref a_facts_leans, .ref a_facts_all, .ref a_facts_lostWith])), (a_facts_all, .inl (c 0, 12, .inl x_facts_all)), (a_room_knows, .inl (c 0, 4, .inl x_room_knows)), (a_facts_leans, .inl (c 0, 12, .inl x_facts_leans)), (a_facts_lostWith, .inl (c 0, 12, .inl x_facts_lostWith))]) (x_goV (As := []) (rest := []) ⟨hx, hb, hml, hown, hts⟩ (mX6_takeLeech l D c a_this a_letters a_facts a_room a_room_knows a_room_kind a_room_on a_room_has ev H.size x_clauses x_room_members x_room_basin x_room_minute x_letters x_length x_room_kind x_room_on x_room_has x_room_leeches x_start x_end n _ _ _ _ _ _ _ hc9) (cwV 0 hts gX6_takeClause_X6_takeLeech rfl rfl rfl (by decide +kernel) ⟨Nat.le_of_ble_eq_true rfl, Nat.le_of_ble_eq_true rfl⟩) xV_b hP hD hK [0, 1, 2, 3, 4, 5] rfl (by decide) (fun U hU hW => xV_call hV hS (va_free hD hS hA [0, 1, 2, 3, 4, 5] rfl) hU hW) 0 6 rfl rfl rfl rfl hl.1 rfl (Nat.le_of_ble_eq_true rfl) dX6_takeClause_73) hP hD hS hA [0, 1, 2, 3, 4, 5] [6, 7, 8, 9, 10] [5, 6, 7, 8, 9, 10, 0, 1, 2, 3, 4] rfl rfl rfl ⟨by decide, by decide, by decide⟩ (fun H locs hP hD hS => ?_)
          obtain ⟨hz, hr⟩ := x_need hr
          have g0 := x_some hr
          have e0 := x_p1 g0
          have g1 := x_p2 g0
          have e1 := x_p1 g1
          have g2 := x_p2 g1
          have e2 := x_p1 g2
          have g3 := x_p2 g2
          have e3 := x_p1 g3
          have g4 := x_p2 g3
          have e4 := x_p1 g4
          have g5 := x_p2 g4
          have e5 := x_p1 g5
          have g6 := x_p2 g5
          have e6 := x_p1 g6
          have g7 := x_p2 g6
          have e7 := x_p1 g7
          have g8 := x_p2 g7
          have e8 := x_p1 g8
          have g9 := x_p2 g8
          have e9 := x_p1 g9
          have g10 := x_p2 g9
          have e10 := x_p1 g10
          have g11 := x_p2 g10
          have e11 := x_p1 g11
          have g12 := x_p2 g11
          have e12 := x_p1 g12
          have g13 := x_p2 g12
          have e13 := x_p1 g13
          have e14 := x_p2 g13
          subst e0
          subst e1
          subst e2
          subst e3
          subst e4
          subst e5
          subst e6
          subst e7
          subst e8
          subst e9
          subst e10
          subst e11
          subst e12
          subst e13
          subst e14
          exact x_retz hx hb hret (x_nz hz) hlocks hP hD hK hS dX6_takeClause_76
        · have hr := x_iff hr c_8
          refine lv_aload_n hx hb dX6_takeClause_67 rfl (lv_at hl 0 rfl) ?_
          obtain ⟨⟨q10_0, q10_1, q10_2, q10_3⟩, hc10, hr⟩ := x_bind hr
          try dsimp only at hr
          refine x_runi (wr := [(a_room_kind, .inl (c 0, 5, .inl x_room_kind)), (a_room_has, .inl (c 0, 5, .inl x_room_has)), (a_facts, .inr (0, [.int x_facts_size, .ref a_facts_leans, .ref a_facts_all, .ref a_facts_lostWith])), (a_facts_all, .inl (c 0, 12, .inl x_facts_all)), (a_room_knows, .inl (c 0, 4, .inl x_room_knows)), (a_facts_leans, .inl (c 0, 12, .inl x_facts_leans)), (a_facts_lostWith, .inl (c 0, 12, .inl x_facts_lostWith))]) (wf := [(a_this, .inr (6, [.ref a_letters, .int x_length, .int q10_1, .int q10_2, .int x_clauses, .ref a_facts, .ref a_room])), (a_letters, .inl (c 0, 200, .inl x_letters)), (a_room, .inr (3, [.int x_room_members, .int x_room_leeches, .int x_room_basin, .int x_room_minute, .ref a_room_knows, .ref a_room_kind, .ref a_room_on, .ref a_room_has])), (a_room_kind, .inl (c 0, 5, .inl x_room_kind)), (a_room_on, .inl (c 0, 5, .inl q10_3)), (a_room_has, .inl (c 0, 5, .inl x_room_has)), (a_facts, .inr (0, [.int x_facts_size, .ref a_facts_leans, .ref a_facts_all, .ref a_facts_lostWith])), (a_facts_all, .inl (c 0, 12, .inl x_facts_all)), (a_room_knows, .inl (c 0, 4, .inl x_room_knows)), (a_facts_leans, .inl (c 0, 12, .inl x_facts_leans)), (a_facts_lostWith, .inl (c 0, 12, .inl x_facts_lostWith))]) (x_goV (As := []) (rest := []) ⟨hx, hb, hml, hown, hts⟩ (mX6_takeOn l D c a_this a_letters a_facts a_room a_room_knows a_room_kind a_room_on a_room_has H.size x_clauses x_room_basin x_room_minute x_length x_letters x_room_leeches x_room_members x_start x_end x_room_on n _ _ _ _ hc10) (cwV 0 hts gX6_takeClause_X6_takeOn rfl rfl rfl (by decide +kernel) ⟨Nat.le_of_ble_eq_true rfl, Nat.le_of_ble_eq_true rfl⟩) xB_t hP hD hK [0, 1, 2, 4] rfl (by decide) (fun _ _ _ => trivial) 0 6 rfl rfl rfl rfl hl.1 rfl (Nat.le_of_ble_eq_true rfl) dX6_takeClause_68) hP hD hS hA [0, 1, 2, 4] [3, 5, 6, 7, 8, 9, 10] [7, 8, 9, 0, 10, 1, 2, 3, 4, 5, 6] rfl rfl rfl ⟨by decide, by decide, by decide⟩ (fun H locs hP hD hS => ?_)
          obtain ⟨hz, hr⟩ := x_need hr
          have g0 := x_some hr
          have e0 := x_p1 g0
          have g1 := x_p2 g0
          have e1 := x_p1 g1
          have g2 := x_p2 g1
          have e2 := x_p1 g2
          have g3 := x_p2 g2
          have e3 := x_p1 g3
          have g4 := x_p2 g3
          have e4 := x_p1 g4
          have g5 := x_p2 g4
          have e5 := x_p1 g5
          have g6 := x_p2 g5
          have e6 := x_p1 g6
          have g7 := x_p2 g6
          have e7 := x_p1 g7
          have g8 := x_p2 g7
          have e8 := x_p1 g8
          have g9 := x_p2 g8
          have e9 := x_p1 g9
          have g10 := x_p2 g9
          have e10 := x_p1 g10
          have g11 := x_p2 g10
          have e11 := x_p1 g11
          have g12 := x_p2 g11
          have e12 := x_p1 g12
          have g13 := x_p2 g12
          have e13 := x_p1 g13
          have e14 := x_p2 g13
          subst e0
          subst e1
          subst e2
          subst e3
          subst e4
          subst e5
          subst e6
          subst e7
          subst e8
          subst e9
          subst e10
          subst e11
          subst e12
          subst e13
          subst e14
          exact x_retz hx hb hret (x_nz hz) hlocks hP hD hK hS dX6_takeClause_71
      · have hr := x_iff hr c_6
        refine lv_aload_n hx hb dX6_takeClause_53 rfl (lv_at hl 0 rfl) ?_
        obtain ⟨⟨q11_0, q11_1, q11_2, q11_3, q11_4⟩, hc11, hr⟩ := x_bind hr
        try dsimp only at hr
        refine x_runi (wr := [(a_room_kind, .inl (c 0, 5, .inl x_room_kind)), (a_room_on, .inl (c 0, 5, .inl x_room_on)), (a_room_has, .inl (c 0, 5, .inl x_room_has)), (a_facts_leans, .inl (c 0, 12, .inl x_facts_leans)), (a_facts_lostWith, .inl (c 0, 12, .inl x_facts_lostWith))]) (wf := [(a_this, .inr (6, [.ref a_letters, .int x_length, .int q11_1, .int q11_2, .int x_clauses, .ref a_facts, .ref a_room])), (a_letters, .inl (c 0, 200, .inl x_letters)), (a_room, .inr (3, [.int q11_4, .int x_room_leeches, .int x_room_basin, .int x_room_minute, .ref a_room_knows, .ref a_room_kind, .ref a_room_on, .ref a_room_has])), (a_room_kind, .inl (c 0, 5, .inl x_room_kind)), (a_room_on, .inl (c 0, 5, .inl x_room_on)), (a_room_has, .inl (c 0, 5, .inl x_room_has)), (a_facts, .inr (0, [.int x_facts_size, .ref a_facts_leans, .ref a_facts_all, .ref a_facts_lostWith])), (a_facts_all, .inl (c 0, 12, .inl x_facts_all)), (a_room_knows, .inl (c 0, 4, .inl q11_3)), (a_facts_leans, .inl (c 0, 12, .inl x_facts_leans)), (a_facts_lostWith, .inl (c 0, 12, .inl x_facts_lostWith))]) (x_goV (As := []) (rest := []) ⟨hx, hb, hml, hown, hts⟩ (mX6_takeMember l D c a_this a_letters a_facts a_room a_room_knows a_room_kind a_room_on a_room_has a_facts_leans a_facts_all a_facts_lostWith ev H.size x_clauses x_room_leeches x_room_basin x_room_minute x_length x_letters x_facts_size x_facts_all x_start x_end x_room_knows x_room_members n _ _ _ _ _ hc11) (cwV 0 hts gX6_takeClause_X6_takeMember rfl rfl rfl (by decide +kernel) ⟨Nat.le_of_ble_eq_true rfl, Nat.le_of_ble_eq_true rfl⟩) xV_b hP hD hK [0, 2, 1, 6, 7, 8] rfl (by decide) (fun U hU hW => xV_call hV hS (va_free hD hS hA [0, 2, 1, 6, 7, 8] rfl) hU hW) 0 6 rfl rfl rfl rfl hl.1 rfl (Nat.le_of_ble_eq_true rfl) dX6_takeClause_54) hP hD hS hA [0, 2, 1, 6, 7, 8] [3, 4, 5, 9, 10] [5, 7, 6, 0, 1, 2, 8, 9, 10, 3, 4] rfl rfl rfl ⟨by decide, by decide, by decide⟩ (fun H locs hP hD hS => ?_)
        obtain ⟨hz, hr⟩ := x_need hr
        have g0 := x_some hr
        have e0 := x_p1 g0
        have g1 := x_p2 g0
        have e1 := x_p1 g1
        have g2 := x_p2 g1
        have e2 := x_p1 g2
        have g3 := x_p2 g2
        have e3 := x_p1 g3
        have g4 := x_p2 g3
        have e4 := x_p1 g4
        have g5 := x_p2 g4
        have e5 := x_p1 g5
        have g6 := x_p2 g5
        have e6 := x_p1 g6
        have g7 := x_p2 g6
        have e7 := x_p1 g7
        have g8 := x_p2 g7
        have e8 := x_p1 g8
        have g9 := x_p2 g8
        have e9 := x_p1 g9
        have g10 := x_p2 g9
        have e10 := x_p1 g10
        have g11 := x_p2 g10
        have e11 := x_p1 g11
        have g12 := x_p2 g11
        have e12 := x_p1 g12
        have g13 := x_p2 g12
        have e13 := x_p1 g13
        have e14 := x_p2 g13
        subst e0
        subst e1
        subst e2
        subst e3
        subst e4
        subst e5
        subst e6
        subst e7
        subst e8
        subst e9
        subst e10
        subst e11
        subst e12
        subst e13
        subst e14
        exact x_retz hx hb hret (x_nz hz) hlocks hP hD hK hS dX6_takeClause_57
    · have hr := x_iff hr c_4
      refine lv_aload_n hx hb dX6_takeClause_39 rfl (lv_at hl 0 rfl) ?_
      obtain ⟨⟨q12_0, q12_1, q12_2, q12_3, q12_4, q12_5, q12_6⟩, hc12, hr⟩ := x_bind hr
      try dsimp only at hr
      refine x_runi (wr := [(a_room, .inr (3, [.int x_room_members, .int x_room_leeches, .int x_room_basin, .int x_room_minute, .ref a_room_knows, .ref a_room_kind, .ref a_room_on, .ref a_room_has])), (a_room_kind, .inl (c 0, 5, .inl x_room_kind)), (a_room_on, .inl (c 0, 5, .inl x_room_on)), (a_room_has, .inl (c 0, 5, .inl x_room_has)), (a_room_knows, .inl (c 0, 4, .inl x_room_knows))]) (wf := [(a_this, .inr (6, [.ref a_letters, .int x_length, .int q12_1, .int q12_2, .int x_clauses, .ref a_facts, .ref a_room])), (a_letters, .inl (c 0, 200, .inl x_letters)), (a_room, .inr (3, [.int x_room_members, .int x_room_leeches, .int x_room_basin, .int x_room_minute, .ref a_room_knows, .ref a_room_kind, .ref a_room_on, .ref a_room_has])), (a_room_kind, .inl (c 0, 5, .inl x_room_kind)), (a_room_on, .inl (c 0, 5, .inl x_room_on)), (a_room_has, .inl (c 0, 5, .inl x_room_has)), (a_facts, .inr (0, [.int q12_6, .ref a_facts_leans, .ref a_facts_all, .ref a_facts_lostWith])), (a_facts_all, .inl (c 0, 12, .inl q12_4)), (a_room_knows, .inl (c 0, 4, .inl x_room_knows)), (a_facts_leans, .inl (c 0, 12, .inl q12_3)), (a_facts_lostWith, .inl (c 0, 12, .inl q12_5))]) (x_goV (As := []) (rest := []) ⟨hx, hb, hml, hown, hts⟩ (mX6_takeFact l D c a_this a_letters a_facts a_room a_facts_leans a_facts_all a_facts_lostWith ev H.size x_clauses x_length x_letters x_start x_end x_facts_leans x_facts_all x_facts_lostWith x_facts_size n _ _ _ _ _ _ _ hc12) (cwV 0 hts gX6_takeClause_X6_takeFact rfl rfl rfl (by decide +kernel) ⟨Nat.le_of_ble_eq_true rfl, Nat.le_of_ble_eq_true rfl⟩) xV_b hP hD hK [0, 6, 1, 9, 7, 10] rfl (by decide) (fun U hU hW => xV_call hV hS (va_free hD hS hA [0, 6, 1, 9, 7, 10] rfl) hU hW) 0 6 rfl rfl rfl rfl hl.1 rfl (Nat.le_of_ble_eq_true rfl) dX6_takeClause_40) hP hD hS hA [0, 6, 1, 9, 7, 10] [2, 3, 4, 5, 8] [5, 7, 0, 1, 2, 3, 6, 9, 4, 8, 10] rfl rfl rfl ⟨by decide, by decide, by decide⟩ (fun H locs hP hD hS => ?_)
      obtain ⟨hz, hr⟩ := x_need hr
      have g0 := x_some hr
      have e0 := x_p1 g0
      have g1 := x_p2 g0
      have e1 := x_p1 g1
      have g2 := x_p2 g1
      have e2 := x_p1 g2
      have g3 := x_p2 g2
      have e3 := x_p1 g3
      have g4 := x_p2 g3
      have e4 := x_p1 g4
      have g5 := x_p2 g4
      have e5 := x_p1 g5
      have g6 := x_p2 g5
      have e6 := x_p1 g6
      have g7 := x_p2 g6
      have e7 := x_p1 g7
      have g8 := x_p2 g7
      have e8 := x_p1 g8
      have g9 := x_p2 g8
      have e9 := x_p1 g9
      have g10 := x_p2 g9
      have e10 := x_p1 g10
      have g11 := x_p2 g10
      have e11 := x_p1 g11
      have g12 := x_p2 g11
      have e12 := x_p1 g12
      have g13 := x_p2 g12
      have e13 := x_p1 g13
      have e14 := x_p2 g13
      subst e0
      subst e1
      subst e2
      subst e3
      subst e4
      subst e5
      subst e6
      subst e7
      subst e8
      subst e9
      subst e10
      subst e11
      subst e12
      subst e13
      subst e14
      exact x_retz hx hb hret (x_nz hz) hlocks hP hD hK hS dX6_takeClause_43
  · have hr := x_iff hr c_2
    refine lv_aload_n hx hb dX6_takeClause_9 rfl (lv_at hl 0 rfl) ?_
    refine va_get (D := D) (ci := 6) (v := .ref a_facts) (C := RX6) (T := TX6) (N := 7) hx hb hts inX6_takeClause_X6 hown hK hP 0 rfl rfl 5 (by decide) (hts _ lkX6_takeClause_f18) (fun _ h9 => h9) rfl dX6_takeClause_10 ?_
    refine lv_iconst (v := 0) hx hb dX6_takeClause_13 (by decide) ?_
    refine va_put (D := D) (ci := 0) (v := .int 0) (ty := .int) (C := RX0) (T := TX0) (N := 4) hx hb hts inX6_takeClause_X0 tyX0 tyX0_ok nmX0 hown hK hP hD hS 6 rfl rfl 0 (by decide) (hts _ lkX6_takeClause_f78) (fun _ h9 => h9) rfl (by decide +kernel) rfl rfl (Nat.le_of_ble_eq_true rfl) dX6_takeClause_14 (fun H locs hP hD hS => ?_)
    have hP : va_P D vwCl [(a_this, .inr (6, [.ref a_letters, .int x_length, .int x_start, .int x_end, .int x_clauses, .ref a_facts, .ref a_room])), (a_letters, .inl (c 0, 200, .inl x_letters)), (a_room, .inr (3, [.int x_room_members, .int x_room_leeches, .int x_room_basin, .int x_room_minute, .ref a_room_knows, .ref a_room_kind, .ref a_room_on, .ref a_room_has])), (a_room_kind, .inl (c 0, 5, .inl x_room_kind)), (a_room_on, .inl (c 0, 5, .inl x_room_on)), (a_room_has, .inl (c 0, 5, .inl x_room_has)), (a_facts, .inr (0, [.int 0, .ref a_facts_leans, .ref a_facts_all, .ref a_facts_lostWith])), (a_facts_all, .inl (c 0, 12, .inl x_facts_all)), (a_room_knows, .inl (c 0, 4, .inl x_room_knows)), (a_facts_leans, .inl (c 0, 12, .inl x_facts_leans)), (a_facts_lostWith, .inl (c 0, 12, .inl x_facts_lostWith))] H := hP
    have hD : va_D A [(a_this, .inr (6, [.ref a_letters, .int x_length, .int x_start, .int x_end, .int x_clauses, .ref a_facts, .ref a_room])), (a_letters, .inl (c 0, 200, .inl x_letters)), (a_room, .inr (3, [.int x_room_members, .int x_room_leeches, .int x_room_basin, .int x_room_minute, .ref a_room_knows, .ref a_room_kind, .ref a_room_on, .ref a_room_has])), (a_room_kind, .inl (c 0, 5, .inl x_room_kind)), (a_room_on, .inl (c 0, 5, .inl x_room_on)), (a_room_has, .inl (c 0, 5, .inl x_room_has)), (a_facts, .inr (0, [.int 0, .ref a_facts_leans, .ref a_facts_all, .ref a_facts_lostWith])), (a_facts_all, .inl (c 0, 12, .inl x_facts_all)), (a_room_knows, .inl (c 0, 4, .inl x_room_knows)), (a_facts_leans, .inl (c 0, 12, .inl x_facts_leans)), (a_facts_lostWith, .inl (c 0, 12, .inl x_facts_lostWith))] := hD
    refine lv_aload_n hx hb dX6_takeClause_17 rfl (lv_at hl 0 rfl) ?_
    refine va_get (D := D) (ci := 6) (v := .ref a_room) (C := RX6) (T := TX6) (N := 7) hx hb hts inX6_takeClause_X6 hown hK hP 0 rfl rfl 6 (by decide) (hts _ lkX6_takeClause_f25) (fun _ h9 => h9) rfl dX6_takeClause_18 ?_
    obtain ⟨⟨q13_0, q13_1, q13_2, q13_3⟩, hc13, hr⟩ := x_bind hr
    try dsimp only at hr
    refine x_runv (wr := [(a_this, .inr (6, [.ref a_letters, .int x_length, .int x_start, .int x_end, .int x_clauses, .ref a_facts, .ref a_room])), (a_letters, .inl (c 0, 200, .inl x_letters)), (a_room_kind, .inl (c 0, 5, .inl x_room_kind)), (a_room_on, .inl (c 0, 5, .inl x_room_on)), (a_room_has, .inl (c 0, 5, .inl x_room_has)), (a_facts, .inr (0, [.int 0, .ref a_facts_leans, .ref a_facts_all, .ref a_facts_lostWith])), (a_facts_all, .inl (c 0, 12, .inl x_facts_all)), (a_room_knows, .inl (c 0, 4, .inl x_room_knows)), (a_facts_leans, .inl (c 0, 12, .inl x_facts_leans)), (a_facts_lostWith, .inl (c 0, 12, .inl x_facts_lostWith))]) (wf := [(a_this, .inr (6, [.ref a_letters, .int x_length, .int x_start, .int x_end, .int x_clauses, .ref a_facts, .ref a_room])), (a_letters, .inl (c 0, 200, .inl x_letters)), (a_room, .inr (3, [.int q13_0, .int q13_1, .int q13_2, .int q13_3, .ref a_room_knows, .ref a_room_kind, .ref a_room_on, .ref a_room_has])), (a_room_kind, .inl (c 0, 5, .inl x_room_kind)), (a_room_on, .inl (c 0, 5, .inl x_room_on)), (a_room_has, .inl (c 0, 5, .inl x_room_has)), (a_facts, .inr (0, [.int 0, .ref a_facts_leans, .ref a_facts_all, .ref a_facts_lostWith])), (a_facts_all, .inl (c 0, 12, .inl x_facts_all)), (a_room_knows, .inl (c 0, 4, .inl x_room_knows)), (a_facts_leans, .inl (c 0, 12, .inl x_facts_leans)), (a_facts_lostWith, .inl (c 0, 12, .inl x_facts_lostWith))]) (x_goV (As := []) (rest := []) ⟨hx, hb, hml, hown, hts⟩ (mX3_setEmpty l D c a_room a_room_knows a_room_kind a_room_on a_room_has H.size x_room_members x_room_leeches x_room_basin x_room_minute n _ _ _ _ hc13) (cwV 0 hts gX6_takeClause_X3_setEmpty rfl rfl rfl (by decide +kernel) ⟨Nat.le_of_ble_eq_true rfl, Nat.le_of_ble_eq_true rfl⟩) xB_t hP hD hK [2] rfl (by decide) (fun _ _ _ => trivial) 2 3 rfl rfl rfl rfl hl.1 rfl (Nat.le_of_ble_eq_true rfl) dX6_takeClause_21) hP hD hS hA [2] [0, 1, 3, 4, 5, 6, 7, 8, 9, 10] [0, 1, 10, 2, 3, 4, 5, 6, 7, 8, 9] rfl rfl rfl ⟨by decide, by decide, by decide⟩ (fun H locs hP hD hS => ?_)
    refine lv_aload_n hx hb dX6_takeClause_24 rfl (lv_at hl 0 rfl) ?_
    obtain ⟨⟨q14_0, q14_1⟩, hc14, hr⟩ := x_bind hr
    try dsimp only at hr
    refine x_runv (wr := [(a_room, .inr (3, [.int q13_0, .int q13_1, .int q13_2, .int q13_3, .ref a_room_knows, .ref a_room_kind, .ref a_room_on, .ref a_room_has])), (a_room_kind, .inl (c 0, 5, .inl x_room_kind)), (a_room_on, .inl (c 0, 5, .inl x_room_on)), (a_room_has, .inl (c 0, 5, .inl x_room_has)), (a_facts, .inr (0, [.int 0, .ref a_facts_leans, .ref a_facts_all, .ref a_facts_lostWith])), (a_facts_all, .inl (c 0, 12, .inl x_facts_all)), (a_room_knows, .inl (c 0, 4, .inl x_room_knows)), (a_facts_leans, .inl (c 0, 12, .inl x_facts_leans)), (a_facts_lostWith, .inl (c 0, 12, .inl x_facts_lostWith))]) (wf := [(a_this, .inr (6, [.ref a_letters, .int x_length, .int q14_0, .int q14_1, .int x_clauses, .ref a_facts, .ref a_room])), (a_letters, .inl (c 0, 200, .inl x_letters)), (a_room, .inr (3, [.int q13_0, .int q13_1, .int q13_2, .int q13_3, .ref a_room_knows, .ref a_room_kind, .ref a_room_on, .ref a_room_has])), (a_room_kind, .inl (c 0, 5, .inl x_room_kind)), (a_room_on, .inl (c 0, 5, .inl x_room_on)), (a_room_has, .inl (c 0, 5, .inl x_room_has)), (a_facts, .inr (0, [.int 0, .ref a_facts_leans, .ref a_facts_all, .ref a_facts_lostWith])), (a_facts_all, .inl (c 0, 12, .inl x_facts_all)), (a_room_knows, .inl (c 0, 4, .inl x_room_knows)), (a_facts_leans, .inl (c 0, 12, .inl x_facts_leans)), (a_facts_lostWith, .inl (c 0, 12, .inl x_facts_lostWith))]) (x_goV (As := []) (rest := []) ⟨hx, hb, hml, hown, hts⟩ (mX6_step l D c a_this a_letters a_facts a_room H.size x_clauses x_length x_letters x_start x_end n _ _ hc14) (cwV 0 hts gX6_takeClause_X6_step rfl rfl rfl (by decide +kernel) ⟨Nat.le_of_ble_eq_true rfl, Nat.le_of_ble_eq_true rfl⟩) xB_t hP hD hK [0, 1] rfl (by decide) (fun _ _ _ => trivial) 0 6 rfl rfl rfl rfl hl.1 rfl (Nat.le_of_ble_eq_true rfl) dX6_takeClause_25) hP hD hS hA [0, 1] [2, 3, 4, 5, 6, 7, 8, 9, 10] [9, 10, 0, 1, 2, 3, 4, 5, 6, 7, 8] rfl rfl rfl ⟨by decide, by decide, by decide⟩ (fun H locs hP hD hS => ?_)
    refine lv_iconst (v := 1) hx hb dX6_takeClause_28 (by decide) ?_
    have g0 := x_some hr
    have e0 := x_p1 g0
    have g1 := x_p2 g0
    have e1 := x_p1 g1
    have g2 := x_p2 g1
    have e2 := x_p1 g2
    have g3 := x_p2 g2
    have e3 := x_p1 g3
    have g4 := x_p2 g3
    have e4 := x_p1 g4
    have g5 := x_p2 g4
    have e5 := x_p1 g5
    have g6 := x_p2 g5
    have e6 := x_p1 g6
    have g7 := x_p2 g6
    have e7 := x_p1 g7
    have g8 := x_p2 g7
    have e8 := x_p1 g8
    have g9 := x_p2 g8
    have e9 := x_p1 g9
    have g10 := x_p2 g9
    have e10 := x_p1 g10
    have g11 := x_p2 g10
    have e11 := x_p1 g11
    have g12 := x_p2 g11
    have e12 := x_p1 g12
    have g13 := x_p2 g12
    have e13 := x_p1 g13
    have e14 := x_p2 g13
    subst e0
    subst e1
    subst e2
    subst e3
    subst e4
    subst e5
    subst e6
    subst e7
    subst e8
    subst e9
    subst e10
    subst e11
    subst e12
    subst e13
    subst e14
    exact x_retz hx hb hret rfl hlocks hP hD hK hS dX6_takeClause_29
set_option maxHeartbeats 4000000 in
set_option maxRecDepth 100000 in
theorem mX6_takeClause (l : Launch) (D : va_G) (c : Nat → ClassId) (a_this : Nat) (a_letters : Nat) (a_facts : Nat) (a_room : Nat) (a_room_knows : Nat) (a_room_kind : Nat) (a_room_on : Nat) (a_room_has : Nat) (a_facts_leans : Nat) (a_facts_all : Nat) (a_facts_lostWith : Nat) (ev : Nat → Nat) (sz : Nat) (x_clauses : Int32) (x_letters : Nat → Int32) (x_length : Int32) (x_room_kind : Nat → Int32) (x_room_on : Nat → Int32) (x_room_has : Nat → Int32) (x_room_leeches : Int32) (x_start : Int32) (x_end : Int32) (x_room_knows : Nat → Int32) (x_room_members : Int32) (x_facts_leans : Nat → Int32) (x_facts_all : Nat → Int32) (x_facts_lostWith : Nat → Int32) (x_facts_size : Int32) (x_room_basin : Int32) (x_room_minute : Int32) (n : Nat) (r_ret : Int32) (rm_room_kind : Nat → Int32) (rm_room_on : Nat → Int32) (rm_room_has : Nat → Int32) (rm_room_leeches : Int32) (rm_start : Int32) (rm_end : Int32) (rm_room_knows : Nat → Int32) (rm_room_members : Int32) (rm_facts_leans : Nat → Int32) (rm_facts_all : Nat → Int32) (rm_facts_lostWith : Nat → Int32) (rm_facts_size : Int32) (rm_room_basin : Int32) (rm_room_minute : Int32) (h : fX6_takeClause n x_letters x_length x_room_kind x_room_on x_room_has x_room_leeches x_start x_end x_room_knows x_room_members x_facts_leans x_facts_all x_facts_lostWith x_facts_size x_room_basin x_room_minute = some (r_ret, rm_room_kind, rm_room_on, rm_room_has, rm_room_leeches, rm_start, rm_end, rm_room_knows, rm_room_members, rm_facts_leans, rm_facts_all, rm_facts_lostWith, rm_facts_size, rm_room_basin, rm_room_minute)) : Met l yX6_takeClause wsX6_takeClause ({ frames := 12, cells := 0, slots := 0, locals := 324 } : Room) (xPc D (xT c) sz [.ref a_this] (wX6_takeClause c a_this a_letters a_facts a_room a_room_knows a_room_kind a_room_on a_room_has a_facts_leans a_facts_all a_facts_lostWith ev x_clauses x_letters x_length x_room_kind x_room_on x_room_has x_room_leeches x_start x_end x_room_knows x_room_members x_facts_leans x_facts_all x_facts_lostWith x_facts_size x_room_basin x_room_minute) (xV ev (va_A (wX6_takeClause c a_this a_letters a_facts a_room a_room_knows a_room_kind a_room_on a_room_has a_facts_leans a_facts_all a_facts_lostWith ev x_clauses x_letters x_length x_room_kind x_room_on x_room_has x_room_leeches x_start x_end x_room_knows x_room_members x_facts_leans x_facts_all x_facts_lostWith x_facts_size x_room_basin x_room_minute) sz))) (xQi D (xT c) (va_A (wX6_takeClause c a_this a_letters a_facts a_room a_room_knows a_room_kind a_room_on a_room_has a_facts_leans a_facts_all a_facts_lostWith ev x_clauses x_letters x_length x_room_kind x_room_on x_room_has x_room_leeches x_start x_end x_room_knows x_room_members x_facts_leans x_facts_all x_facts_lostWith x_facts_size x_room_basin x_room_minute) sz) r_ret (wX6_takeClause c a_this a_letters a_facts a_room a_room_knows a_room_kind a_room_on a_room_has a_facts_leans a_facts_all a_facts_lostWith ev x_clauses x_letters x_length rm_room_kind rm_room_on rm_room_has rm_room_leeches rm_start rm_end rm_room_knows rm_room_members rm_facts_leans rm_facts_all rm_facts_lostWith rm_facts_size rm_room_basin rm_room_minute)) 0 0 (va_A (wX6_takeClause c a_this a_letters a_facts a_room a_room_knows a_room_kind a_room_on a_room_has a_facts_leans a_facts_all a_facts_lostWith ev x_clauses x_letters x_length x_room_kind x_room_on x_room_has x_room_leeches x_start x_end x_room_knows x_room_members x_facts_leans x_facts_all x_facts_lostWith x_facts_size x_room_basin x_room_minute) sz) := by
  refine Met.ofW (cc := cX6_takeClause) (maxL := 1) (ret := (some .boolean)) (by decide) rfl ?_
  intro p e s m args below meth cd s₁ B hml hv
  obtain ⟨rfl, hsz, hP, hK, hD0, hV⟩ := hv
  subst hsz
  have hl := lv_entry [.ref a_this] (n := 1) (Nat.le_of_ble_eq_true rfl)
  rw [lg_entry_eq]
  exact kX6_takeClause_0 (A := va_A (wX6_takeClause c a_this a_letters a_facts a_room a_room_knows a_room_kind a_room_on a_room_has a_facts_leans a_facts_all a_facts_lostWith ev x_clauses x_letters x_length x_room_kind x_room_on x_room_has x_room_leeches x_start x_end x_room_knows x_room_members x_facts_leans x_facts_all x_facts_lostWith x_facts_size x_room_basin x_room_minute) s.heap.size) ⟨B.exec, B.bytes, hml, B.returns, findClass_of_methodNamed B.named, atoms_spec (ws := wsX6_takeClause) B.pre, B.notSynchronized, fun q h => Or.inr h, hK⟩ a_this a_letters a_facts a_room a_room_knows a_room_kind a_room_on a_room_has a_facts_leans a_facts_all a_facts_lostWith ev x_clauses x_letters x_length n r_ret rm_room_kind rm_room_on rm_room_has rm_room_leeches rm_start rm_end rm_room_knows rm_room_members rm_facts_leans rm_facts_all rm_facts_lostWith rm_facts_size rm_room_basin rm_room_minute hV x_room_kind x_room_on x_room_has x_room_leeches x_start x_end x_room_knows x_room_members x_facts_leans x_facts_all x_facts_lostWith x_facts_size x_room_basin x_room_minute h s.heap [] _ hP hD0.self va_S.rf hl

