abbrev wX7_minute (c : Nat → ClassId) (a_this : Nat) (a_text : Nat) (a_facts : Nat) (a_told : Nat) (a_now : Nat) (a_trial : Nat) (a_past : Nat) (a_kept : Nat) (a_sightings : Nat) (a_plan : Nat) (a_slates : Nat) (a_reckoned : Nat) (a_now_knows : Nat) (a_now_kind : Nat) (a_now_on : Nat) (a_now_has : Nat) (a_facts_leans : Nat) (a_facts_all : Nat) (a_facts_lostWith : Nat) (ev : Nat → Nat) (x_keptBits : Int32) (x_facts_size : Int32) (x_now_members : Int32) (x_now_leeches : Int32) (x_now_basin : Int32) (x_now_kind : Nat → Int32) (x_facts_lostWith : Nat → Int32) (x_past_members : Nat → Int32) (x_past_leeches : Nat → Int32) (x_past_basin : Nat → Int32) (x_past_minute : Nat → Int32) (x_past_knows : Nat → Nat → Int32) (x_past_kind : Nat → Nat → Int32) (x_past_on : Nat → Nat → Int32) (x_past_has : Nat → Nat → Int32) (a_past_e : Nat → Nat) (a_past_knows : Nat → Nat) (a_past_kind : Nat → Nat) (a_past_on : Nat → Nat) (a_past_has : Nat → Nat) (xp_past : Nat → Option Nat) (x_undoable : Int32) (x_now_minute : Int32) (x_now_has : Nat → Int32) (x_now_knows : Nat → Int32) (x_now_on : Nat → Int32) : va_W := [(a_this, .inr (7, [.ref a_text, .ref a_facts, .ref a_told, .ref a_now, .ref a_trial, .ref a_past, .int x_undoable, .ref a_kept, .int x_keptBits, .ref a_sightings, .ref a_plan, .ref a_slates, .ref a_reckoned])), (a_now, .inr (3, [.int x_now_members, .int x_now_leeches, .int x_now_basin, .int x_now_minute, .ref a_now_knows, .ref a_now_kind, .ref a_now_on, .ref a_now_has])), (a_past, .inl (c 3, 8, .inr (.inr (.inr (.inr xp_past))))), ((a_past_e 0), .inr (3, [.int (x_past_members 0), .int (x_past_leeches 0), .int (x_past_basin 0), .int (x_past_minute 0), .ref (a_past_knows 0), .ref (a_past_kind 0), .ref (a_past_on 0), .ref (a_past_has 0)])), ((a_past_e 1), .inr (3, [.int (x_past_members 1), .int (x_past_leeches 1), .int (x_past_basin 1), .int (x_past_minute 1), .ref (a_past_knows 1), .ref (a_past_kind 1), .ref (a_past_on 1), .ref (a_past_has 1)])), ((a_past_e 2), .inr (3, [.int (x_past_members 2), .int (x_past_leeches 2), .int (x_past_basin 2), .int (x_past_minute 2), .ref (a_past_knows 2), .ref (a_past_kind 2), .ref (a_past_on 2), .ref (a_past_has 2)])), ((a_past_e 3), .inr (3, [.int (x_past_members 3), .int (x_past_leeches 3), .int (x_past_basin 3), .int (x_past_minute 3), .ref (a_past_knows 3), .ref (a_past_kind 3), .ref (a_past_on 3), .ref (a_past_has 3)])), ((a_past_e 4), .inr (3, [.int (x_past_members 4), .int (x_past_leeches 4), .int (x_past_basin 4), .int (x_past_minute 4), .ref (a_past_knows 4), .ref (a_past_kind 4), .ref (a_past_on 4), .ref (a_past_has 4)])), ((a_past_e 5), .inr (3, [.int (x_past_members 5), .int (x_past_leeches 5), .int (x_past_basin 5), .int (x_past_minute 5), .ref (a_past_knows 5), .ref (a_past_kind 5), .ref (a_past_on 5), .ref (a_past_has 5)])), ((a_past_e 6), .inr (3, [.int (x_past_members 6), .int (x_past_leeches 6), .int (x_past_basin 6), .int (x_past_minute 6), .ref (a_past_knows 6), .ref (a_past_kind 6), .ref (a_past_on 6), .ref (a_past_has 6)])), ((a_past_e 7), .inr (3, [.int (x_past_members 7), .int (x_past_leeches 7), .int (x_past_basin 7), .int (x_past_minute 7), .ref (a_past_knows 7), .ref (a_past_kind 7), .ref (a_past_on 7), .ref (a_past_has 7)])), (a_now_knows, .inl (c 0, 4, .inl x_now_knows)), ((a_past_knows 0), .inl (c 0, 4, .inl (x_past_knows 0))), ((a_past_knows 1), .inl (c 0, 4, .inl (x_past_knows 1))), ((a_past_knows 2), .inl (c 0, 4, .inl (x_past_knows 2))), ((a_past_knows 3), .inl (c 0, 4, .inl (x_past_knows 3))), ((a_past_knows 4), .inl (c 0, 4, .inl (x_past_knows 4))), ((a_past_knows 5), .inl (c 0, 4, .inl (x_past_knows 5))), ((a_past_knows 6), .inl (c 0, 4, .inl (x_past_knows 6))), ((a_past_knows 7), .inl (c 0, 4, .inl (x_past_knows 7))), (a_now_kind, .inl (c 0, 5, .inl x_now_kind)), ((a_past_kind 0), .inl (c 0, 5, .inl (x_past_kind 0))), ((a_past_kind 1), .inl (c 0, 5, .inl (x_past_kind 1))), ((a_past_kind 2), .inl (c 0, 5, .inl (x_past_kind 2))), ((a_past_kind 3), .inl (c 0, 5, .inl (x_past_kind 3))), ((a_past_kind 4), .inl (c 0, 5, .inl (x_past_kind 4))), ((a_past_kind 5), .inl (c 0, 5, .inl (x_past_kind 5))), ((a_past_kind 6), .inl (c 0, 5, .inl (x_past_kind 6))), ((a_past_kind 7), .inl (c 0, 5, .inl (x_past_kind 7))), (a_now_on, .inl (c 0, 5, .inl x_now_on)), ((a_past_on 0), .inl (c 0, 5, .inl (x_past_on 0))), ((a_past_on 1), .inl (c 0, 5, .inl (x_past_on 1))), ((a_past_on 2), .inl (c 0, 5, .inl (x_past_on 2))), ((a_past_on 3), .inl (c 0, 5, .inl (x_past_on 3))), ((a_past_on 4), .inl (c 0, 5, .inl (x_past_on 4))), ((a_past_on 5), .inl (c 0, 5, .inl (x_past_on 5))), ((a_past_on 6), .inl (c 0, 5, .inl (x_past_on 6))), ((a_past_on 7), .inl (c 0, 5, .inl (x_past_on 7))), (a_now_has, .inl (c 0, 5, .inl x_now_has)), ((a_past_has 0), .inl (c 0, 5, .inl (x_past_has 0))), ((a_past_has 1), .inl (c 0, 5, .inl (x_past_has 1))), ((a_past_has 2), .inl (c 0, 5, .inl (x_past_has 2))), ((a_past_has 3), .inl (c 0, 5, .inl (x_past_has 3))), ((a_past_has 4), .inl (c 0, 5, .inl (x_past_has 4))), ((a_past_has 5), .inl (c 0, 5, .inl (x_past_has 5))), ((a_past_has 6), .inl (c 0, 5, .inl (x_past_has 6))), ((a_past_has 7), .inl (c 0, 5, .inl (x_past_has 7))), (a_facts, .inr (0, [.int x_facts_size, .ref a_facts_leans, .ref a_facts_all, .ref a_facts_lostWith])), (a_facts_lostWith, .inl (c 0, 12, .inl x_facts_lostWith))]
def GX7_minute (p : Program) (l : Launch) (e : Env) (s : State) (m : MethodId) (args : Array Value) (below : List Frame) (meth : Method) (cd : Code) (D : va_G) (c : Nat → ClassId) (A : Nat → Prop) (a_this : Nat) (a_text : Nat) (a_facts : Nat) (a_told : Nat) (a_now : Nat) (a_trial : Nat) (a_past : Nat) (a_kept : Nat) (a_sightings : Nat) (a_plan : Nat) (a_slates : Nat) (a_reckoned : Nat) (a_now_knows : Nat) (a_now_kind : Nat) (a_now_on : Nat) (a_now_has : Nat) (a_facts_leans : Nat) (a_facts_all : Nat) (a_facts_lostWith : Nat) (ev : Nat → Nat) (x_keptBits : Int32) (x_facts_size : Int32) (x_now_members : Int32) (x_now_leeches : Int32) (x_now_basin : Int32) (x_now_kind : Nat → Int32) (x_facts_lostWith : Nat → Int32) (r_ret : Int32) (rm_past_members : Nat → Int32) (rm_past_leeches : Nat → Int32) (rm_past_basin : Nat → Int32) (rm_past_minute : Nat → Int32) (rm_past_knows : Nat → Nat → Int32) (rm_past_kind : Nat → Nat → Int32) (rm_past_on : Nat → Nat → Int32) (rm_past_has : Nat → Nat → Int32) (ra_past_e : Nat → Nat) (ra_past_knows : Nat → Nat) (ra_past_kind : Nat → Nat) (ra_past_on : Nat → Nat) (ra_past_has : Nat → Nat) (rp_past : Nat → Option Nat) (rm_undoable : Int32) (rm_now_minute : Int32) (rm_now_has : Nat → Int32) (rm_now_knows : Nat → Int32) (rm_now_on : Nat → Int32) (pc : Nat) (st : List Value) (loc : List (Nat × Value)) (x_past_members : Nat → Int32) (x_past_leeches : Nat → Int32) (x_past_basin : Nat → Int32) (x_past_minute : Nat → Int32) (x_past_knows : Nat → Nat → Int32) (x_past_kind : Nat → Nat → Int32) (x_past_on : Nat → Nat → Int32) (x_past_has : Nat → Nat → Int32) (a_past_e : Nat → Nat) (a_past_knows : Nat → Nat) (a_past_kind : Nat → Nat) (a_past_on : Nat → Nat) (a_past_has : Nat → Nat) (xp_past : Nat → Option Nat) (x_undoable : Int32) (x_now_minute : Int32) (x_now_has : Nat → Int32) (x_now_knows : Nat → Int32) (x_now_on : Nat → Int32) : Prop :=
  ∀ (H : Heap) (locs : List Loc) (ls : Array Slot), va_P D vwCl (wX7_minute c a_this a_text a_facts a_told a_now a_trial a_past a_kept a_sightings a_plan a_slates a_reckoned a_now_knows a_now_kind a_now_on a_now_has a_facts_leans a_facts_all a_facts_lostWith ev x_keptBits x_facts_size x_now_members x_now_leeches x_now_basin x_now_kind x_facts_lostWith x_past_members x_past_leeches x_past_basin x_past_minute x_past_knows x_past_kind x_past_on x_past_has a_past_e a_past_knows a_past_kind a_past_on a_past_has xp_past x_undoable x_now_minute x_now_has x_now_knows x_now_on) H → va_D A (wX7_minute c a_this a_text a_facts a_told a_now a_trial a_past a_kept a_sightings a_plan a_slates a_reckoned a_now_knows a_now_kind a_now_on a_now_has a_facts_leans a_facts_all a_facts_lostWith ev x_keptBits x_facts_size x_now_members x_now_leeches x_now_basin x_now_kind x_facts_lostWith x_past_members x_past_leeches x_past_basin x_past_minute x_past_knows x_past_kind x_past_on x_past_has a_past_e a_past_knows a_past_kind a_past_on a_past_has xp_past x_undoable x_now_minute x_now_has x_now_knows x_now_on) → va_S A s.heap H locs → lv_has ls 2 loc → W p l e ({ frames := 4, cells := 0, slots := 0, locals := 143 } : Room) s m args below meth cd H locs 0 0 (MQ below (xQi D (xT c) A r_ret (wX7_minute c a_this a_text a_facts a_told a_now a_trial a_past a_kept a_sightings a_plan a_slates a_reckoned a_now_knows a_now_kind a_now_on a_now_has a_facts_leans a_facts_all a_facts_lostWith ev x_keptBits x_facts_size x_now_members x_now_leeches x_now_basin x_now_kind x_facts_lostWith rm_past_members rm_past_leeches rm_past_basin rm_past_minute rm_past_knows rm_past_kind rm_past_on rm_past_has ra_past_e ra_past_knows ra_past_kind ra_past_on ra_past_has rp_past rm_undoable rm_now_minute rm_now_has rm_now_knows rm_now_on)) args s 0 0 A) (F0 m pc ls st)
theorem lkX7_minute_f169 : Cond.fieldLink RX7 169 "LeechClub$Room" "minute" "I" ∈ wsX7_minute := by decide +kernel
theorem lkX7_minute_f19 : Cond.fieldLink RX7 19 "LeechClub" "facts" "LLeechClub$Facts;" ∈ wsX7_minute := by decide +kernel
theorem lkX7_minute_f30 : Cond.fieldLink RX7 30 "LeechClub" "now" "LLeechClub$Room;" ∈ wsX7_minute := by decide +kernel
theorem inX7_minute_X7 : ∀ w ∈ wsX70, w ∈ wsX7_minute := by decide +kernel
theorem inX7_minute_X3 : ∀ w ∈ wsX30, w ∈ wsX7_minute := by decide +kernel
set_option maxHeartbeats 4000000 in
set_option maxRecDepth 100000 in
theorem kX7_minute_11 {p : Program} {l : Launch} {e : Env} {s : State} {m : MethodId} {args : Array Value} {below : List Frame} {meth : Method} {cd : Code} {D : va_G} {c : Nat → ClassId} {A : Nat → Prop} (E0 : xE p s m args meth cd D (xT c) A RX7 cX7_minute 2 (some .int) wsX7_minute) (a_this : Nat) (a_text : Nat) (a_facts : Nat) (a_told : Nat) (a_now : Nat) (a_trial : Nat) (a_past : Nat) (a_kept : Nat) (a_sightings : Nat) (a_plan : Nat) (a_slates : Nat) (a_reckoned : Nat) (a_now_knows : Nat) (a_now_kind : Nat) (a_now_on : Nat) (a_now_has : Nat) (a_facts_leans : Nat) (a_facts_all : Nat) (a_facts_lostWith : Nat) (ev : Nat → Nat) (x_keptBits : Int32) (x_facts_size : Int32) (x_now_members : Int32) (x_now_leeches : Int32) (x_now_basin : Int32) (x_now_kind : Nat → Int32) (x_facts_lostWith : Nat → Int32) (n : Nat) (r_ret : Int32) (rm_past_members : Nat → Int32) (rm_past_leeches : Nat → Int32) (rm_past_basin : Nat → Int32) (rm_past_minute : Nat → Int32) (rm_past_knows : Nat → Nat → Int32) (rm_past_kind : Nat → Nat → Int32) (rm_past_on : Nat → Nat → Int32) (rm_past_has : Nat → Nat → Int32) (ra_past_e : Nat → Nat) (ra_past_knows : Nat → Nat) (ra_past_kind : Nat → Nat) (ra_past_on : Nat → Nat) (ra_past_has : Nat → Nat) (rp_past : Nat → Option Nat) (rm_undoable : Int32) (rm_now_minute : Int32) (rm_now_has : Nat → Int32) (rm_now_knows : Nat → Int32) (rm_now_on : Nat → Int32) (hV : xV ev A s) (x_past_members : Nat → Int32) (x_past_leeches : Nat → Int32) (x_past_basin : Nat → Int32) (x_past_minute : Nat → Int32) (x_past_knows : Nat → Nat → Int32) (x_past_kind : Nat → Nat → Int32) (x_past_on : Nat → Nat → Int32) (x_past_has : Nat → Nat → Int32) (a_past_e : Nat → Nat) (a_past_knows : Nat → Nat) (a_past_kind : Nat → Nat) (a_past_on : Nat → Nat) (a_past_has : Nat → Nat) (xp_past : Nat → Option Nat) (x_undoable : Int32) (x_now_minute : Int32) (x_now_has : Nat → Int32) (x_now_knows : Nat → Int32) (x_now_on : Nat → Int32) (hr : fX7_minute_11 n x_now_members x_now_leeches x_now_basin x_now_kind x_facts_lostWith x_past_members x_past_leeches x_past_basin x_past_minute x_past_knows x_past_kind x_past_on x_past_has a_past_e a_past_knows a_past_kind a_past_on a_past_has xp_past x_undoable x_now_minute x_now_has x_now_knows x_now_on = some (r_ret, rm_past_members, rm_past_leeches, rm_past_basin, rm_past_minute, rm_past_knows, rm_past_kind, rm_past_on, rm_past_has, ra_past_e, ra_past_knows, ra_past_kind, ra_past_on, ra_past_has, rp_past, rm_undoable, rm_now_minute, rm_now_has, rm_now_knows, rm_now_on)) (hp_past : ∀ j, j < 8 → xp_past j = some (a_past_e j)) : GX7_minute p l e s m args below meth cd D c A a_this a_text a_facts a_told a_now a_trial a_past a_kept a_sightings a_plan a_slates a_reckoned a_now_knows a_now_kind a_now_on a_now_has a_facts_leans a_facts_all a_facts_lostWith ev x_keptBits x_facts_size x_now_members x_now_leeches x_now_basin x_now_kind x_facts_lostWith r_ret rm_past_members rm_past_leeches rm_past_basin rm_past_minute rm_past_knows rm_past_kind rm_past_on rm_past_has ra_past_e ra_past_knows ra_past_kind ra_past_on ra_past_has rp_past rm_undoable rm_now_minute rm_now_has rm_now_knows rm_now_on 11 [] [] x_past_members x_past_leeches x_past_basin x_past_minute x_past_knows x_past_kind x_past_on x_past_has a_past_e a_past_knows a_past_kind a_past_on a_past_has xp_past x_undoable x_now_minute x_now_has x_now_knows x_now_on := by
  have E1 := E0
  obtain ⟨hx, hb, hml, hret, hown, hts, hlocks, hA, hK⟩ := E1
  have hVV := hV
  obtain ⟨hn_RX7_9, hn_RX6_17, hn_RX6_24, hn_RX7_18, hn_RX7_25, hn_RX7_45, hn_RX7_52, hn_RX7_65, hn_RX7_70, hn_RX0_31, hn_RX3_53, hn_RX2_57, hn_RX3_65, hn_RX3_86, hz_TAKES, ht_TAKES, hz_HAS_ROOM, ht_HAS_ROOM, hz_SUCH, ht_SUCH, hz_FIRST_FIGURE, ht_FIRST_FIGURE, hz_compact, hz_sioobe, ho_Room, ho_Slate, ho_grid, hstr, hs_0, hs_1, hs_2, hs_3, hs_4, hs_5, hs_6, hs_7, hs_8⟩ := hVV
  intro H locs ls hP hD hS hl
  unfold fX7_minute_11 at hr
  refine lv_bipush (v := (-3)) hx hb dX7_minute_11 (by decide) ?_
  have g0 := x_some hr
  have e0 := x_p1 g0
  have g1 := x_p2 g0
  have e1 := x_p1 g1
  have g2 := x_p2 g1
  have e2 := x_p1 g2
  have g3 := x_p2 g2
  have e3 := x_p1 g3
  have g4 := x_p2 g3
  have e4 := x_p1 g4
  have g5 := x_p2 g4
  have e5 := x_p1 g5
  have g6 := x_p2 g5
  have e6 := x_p1 g6
  have g7 := x_p2 g6
  have e7 := x_p1 g7
  have g8 := x_p2 g7
  have e8 := x_p1 g8
  have g9 := x_p2 g8
  have e9 := x_p1 g9
  have g10 := x_p2 g9
  have e10 := x_p1 g10
  have g11 := x_p2 g10
  have e11 := x_p1 g11
  have g12 := x_p2 g11
  have e12 := x_p1 g12
  have g13 := x_p2 g12
  have e13 := x_p1 g13
  have g14 := x_p2 g13
  have e14 := x_p1 g14
  have g15 := x_p2 g14
  have e15 := x_p1 g15
  have g16 := x_p2 g15
  have e16 := x_p1 g16
  have g17 := x_p2 g16
  have e17 := x_p1 g17
  have g18 := x_p2 g17
  have e18 := x_p1 g18
  have e19 := x_p2 g18
  subst e0
  subst e1
  subst e2
  subst e3
  subst e4
  subst e5
  subst e6
  subst e7
  subst e8
  subst e9
  subst e10
  subst e11
  subst e12
  subst e13
  subst e14
  subst e15
  subst e16
  subst e17
  subst e18
  subst e19
  exact x_reti hx hb hret hlocks hP hD hK hS dX7_minute_13
set_option maxHeartbeats 4000000 in
set_option maxRecDepth 100000 in
theorem kX7_minute_0 {p : Program} {l : Launch} {e : Env} {s : State} {m : MethodId} {args : Array Value} {below : List Frame} {meth : Method} {cd : Code} {D : va_G} {c : Nat → ClassId} {A : Nat → Prop} (E0 : xE p s m args meth cd D (xT c) A RX7 cX7_minute 2 (some .int) wsX7_minute) (a_this : Nat) (a_text : Nat) (a_facts : Nat) (a_told : Nat) (a_now : Nat) (a_trial : Nat) (a_past : Nat) (a_kept : Nat) (a_sightings : Nat) (a_plan : Nat) (a_slates : Nat) (a_reckoned : Nat) (a_now_knows : Nat) (a_now_kind : Nat) (a_now_on : Nat) (a_now_has : Nat) (a_facts_leans : Nat) (a_facts_all : Nat) (a_facts_lostWith : Nat) (ev : Nat → Nat) (x_keptBits : Int32) (x_facts_size : Int32) (x_now_members : Int32) (x_now_leeches : Int32) (x_now_basin : Int32) (x_now_kind : Nat → Int32) (x_facts_lostWith : Nat → Int32) (n : Nat) (r_ret : Int32) (rm_past_members : Nat → Int32) (rm_past_leeches : Nat → Int32) (rm_past_basin : Nat → Int32) (rm_past_minute : Nat → Int32) (rm_past_knows : Nat → Nat → Int32) (rm_past_kind : Nat → Nat → Int32) (rm_past_on : Nat → Nat → Int32) (rm_past_has : Nat → Nat → Int32) (ra_past_e : Nat → Nat) (ra_past_knows : Nat → Nat) (ra_past_kind : Nat → Nat) (ra_past_on : Nat → Nat) (ra_past_has : Nat → Nat) (rp_past : Nat → Option Nat) (rm_undoable : Int32) (rm_now_minute : Int32) (rm_now_has : Nat → Int32) (rm_now_knows : Nat → Int32) (rm_now_on : Nat → Int32) (hV : xV ev A s) (x_past_members : Nat → Int32) (x_past_leeches : Nat → Int32) (x_past_basin : Nat → Int32) (x_past_minute : Nat → Int32) (x_past_knows : Nat → Nat → Int32) (x_past_kind : Nat → Nat → Int32) (x_past_on : Nat → Nat → Int32) (x_past_has : Nat → Nat → Int32) (a_past_e : Nat → Nat) (a_past_knows : Nat → Nat) (a_past_kind : Nat → Nat) (a_past_on : Nat → Nat) (a_past_has : Nat → Nat) (xp_past : Nat → Option Nat) (x_undoable : Int32) (x_now_minute : Int32) (x_now_has : Nat → Int32) (x_now_knows : Nat → Int32) (x_now_on : Nat → Int32) (v1 : Int32) (hr : fX7_minute n x_now_members x_now_leeches x_now_basin x_now_kind x_facts_lostWith x_past_members x_past_leeches x_past_basin x_past_minute x_past_knows x_past_kind x_past_on x_past_has a_past_e a_past_knows a_past_kind a_past_on a_past_has xp_past x_undoable x_now_minute x_now_has x_now_knows x_now_on v1 = some (r_ret, rm_past_members, rm_past_leeches, rm_past_basin, rm_past_minute, rm_past_knows, rm_past_kind, rm_past_on, rm_past_has, ra_past_e, ra_past_knows, ra_past_kind, ra_past_on, ra_past_has, rp_past, rm_undoable, rm_now_minute, rm_now_has, rm_now_knows, rm_now_on)) (hp_past : ∀ j, j < 8 → xp_past j = some (a_past_e j)) : GX7_minute p l e s m args below meth cd D c A a_this a_text a_facts a_told a_now a_trial a_past a_kept a_sightings a_plan a_slates a_reckoned a_now_knows a_now_kind a_now_on a_now_has a_facts_leans a_facts_all a_facts_lostWith ev x_keptBits x_facts_size x_now_members x_now_leeches x_now_basin x_now_kind x_facts_lostWith r_ret rm_past_members rm_past_leeches rm_past_basin rm_past_minute rm_past_knows rm_past_kind rm_past_on rm_past_has ra_past_e ra_past_knows ra_past_kind ra_past_on ra_past_has rp_past rm_undoable rm_now_minute rm_now_has rm_now_knows rm_now_on 0 [] [(0, .ref a_this), (1, .int v1)] x_past_members x_past_leeches x_past_basin x_past_minute x_past_knows x_past_kind x_past_on x_past_has a_past_e a_past_knows a_past_kind a_past_on a_past_has xp_past x_undoable x_now_minute x_now_has x_now_knows x_now_on := by
  have E1 := E0
  obtain ⟨hx, hb, hml, hret, hown, hts, hlocks, hA, hK⟩ := E1
  have hVV := hV
  obtain ⟨hn_RX7_9, hn_RX6_17, hn_RX6_24, hn_RX7_18, hn_RX7_25, hn_RX7_45, hn_RX7_52, hn_RX7_65, hn_RX7_70, hn_RX0_31, hn_RX3_53, hn_RX2_57, hn_RX3_65, hn_RX3_86, hz_TAKES, ht_TAKES, hz_HAS_ROOM, ht_HAS_ROOM, hz_SUCH, ht_SUCH, hz_FIRST_FIGURE, ht_FIRST_FIGURE, hz_compact, hz_sioobe, ho_Room, ho_Slate, ho_grid, hstr, hs_0, hs_1, hs_2, hs_3, hs_4, hs_5, hs_6, hs_7, hs_8⟩ := hVV
  intro H locs ls hP hD hS hl
  unfold fX7_minute at hr
  refine lv_iload_n hx hb dX7_minute_0 rfl (lv_at hl 1 rfl) ?_
  refine lv_iconst (v := 1) hx hb dX7_minute_1 (by decide) ?_
  refine lv_icmp_lt (tgt := 11) hx hb dX7_minute_2 (by decide) (fun c_1 => ?_) (fun c_1 => ?_)
  · have hr := x_ift hr c_1
    exact kX7_minute_11 E0 a_this a_text a_facts a_told a_now a_trial a_past a_kept a_sightings a_plan a_slates a_reckoned a_now_knows a_now_kind a_now_on a_now_has a_facts_leans a_facts_all a_facts_lostWith ev x_keptBits x_facts_size x_now_members x_now_leeches x_now_basin x_now_kind x_facts_lostWith n r_ret rm_past_members rm_past_leeches rm_past_basin rm_past_minute rm_past_knows rm_past_kind rm_past_on rm_past_has ra_past_e ra_past_knows ra_past_kind ra_past_on ra_past_has rp_past rm_undoable rm_now_minute rm_now_has rm_now_knows rm_now_on hV x_past_members x_past_leeches x_past_basin x_past_minute x_past_knows x_past_kind x_past_on x_past_has a_past_e a_past_knows a_past_kind a_past_on a_past_has xp_past x_undoable x_now_minute x_now_has x_now_knows x_now_on hr hp_past H locs ls hP hD hS (lv_sub hl [] rfl)
  · have hr := x_iff hr c_1
    refine lv_iload_n hx hb dX7_minute_5 rfl (lv_at hl 1 rfl) ?_
    refine lv_bipush (v := 12) hx hb dX7_minute_6 (by decide) ?_
    refine lv_icmp_le (tgt := 14) hx hb dX7_minute_8 (by decide) (fun c_2 => ?_) (fun c_2 => ?_)
    · have hr := x_ift hr c_2
      refine lv_aload_n hx hb dX7_minute_14 rfl (lv_at hl 0 rfl) ?_
      refine va_get (D := D) (ci := 7) (v := .ref a_now) (C := RX7) (T := TX7) (N := 13) hx hb hts inX7_minute_X7 hown hK hP 0 rfl rfl 3 (by decide) (hts _ lkX7_minute_f30) (fun _ h9 => h9) rfl dX7_minute_15 ?_
      refine va_get (D := D) (ci := 3) (v := .int x_now_minute) (C := RX3) (T := TX3) (N := 8) hx hb hts inX7_minute_X3 hown hK hP 1 rfl rfl 3 (by decide) (hts _ lkX7_minute_f169) (fun _ h9 => h9) rfl dX7_minute_18 ?_
      refine lv_iload_n hx hb dX7_minute_21 rfl (lv_at hl 1 rfl) ?_
      refine lv_iadd hx hb dX7_minute_22 ?_
      refine lv_sipush (v := 999) hx hb dX7_minute_23 (by decide) ?_
      refine lv_icmp_le (tgt := 32) hx hb dX7_minute_26 (by decide) (fun c_3 => ?_) (fun c_3 => ?_)
      · have hr := x_ift hr c_3
        refine lv_aload_n hx hb dX7_minute_32 rfl (lv_at hl 0 rfl) ?_
        obtain ⟨⟨q4_0, q4_1, q4_2, q4_3, q4_4, q4_5, q4_6, q4_7, q4_8, q4_9, q4_10, q4_11, q4_12, q4_13, q4_14⟩, hc4, hr⟩ := x_bind hr
        try dsimp only at hr
        refine x_runv (wr := [(a_facts, .inr (0, [.int x_facts_size, .ref a_facts_leans, .ref a_facts_all, .ref a_facts_lostWith])), (a_facts_lostWith, .inl (c 0, 12, .inl x_facts_lostWith))]) (wf := [(a_this, .inr (7, [.ref a_text, .ref a_facts, .ref a_told, .ref a_now, .ref a_trial, .ref a_past, .int q4_14, .ref a_kept, .int x_keptBits, .ref a_sightings, .ref a_plan, .ref a_slates, .ref a_reckoned])), (a_now, .inr (3, [.int x_now_members, .int x_now_leeches, .int x_now_basin, .int x_now_minute, .ref a_now_knows, .ref a_now_kind, .ref a_now_on, .ref a_now_has])), (a_past, .inl (c 3, 8, .inr (.inr (.inr (.inr q4_13))))), ((q4_8 0), .inr (3, [.int (q4_0 0), .int (q4_1 0), .int (q4_2 0), .int (q4_3 0), .ref (q4_9 0), .ref (q4_10 0), .ref (q4_11 0), .ref (q4_12 0)])), ((q4_8 1), .inr (3, [.int (q4_0 1), .int (q4_1 1), .int (q4_2 1), .int (q4_3 1), .ref (q4_9 1), .ref (q4_10 1), .ref (q4_11 1), .ref (q4_12 1)])), ((q4_8 2), .inr (3, [.int (q4_0 2), .int (q4_1 2), .int (q4_2 2), .int (q4_3 2), .ref (q4_9 2), .ref (q4_10 2), .ref (q4_11 2), .ref (q4_12 2)])), ((q4_8 3), .inr (3, [.int (q4_0 3), .int (q4_1 3), .int (q4_2 3), .int (q4_3 3), .ref (q4_9 3), .ref (q4_10 3), .ref (q4_11 3), .ref (q4_12 3)])), ((q4_8 4), .inr (3, [.int (q4_0 4), .int (q4_1 4), .int (q4_2 4), .int (q4_3 4), .ref (q4_9 4), .ref (q4_10 4), .ref (q4_11 4), .ref (q4_12 4)])), ((q4_8 5), .inr (3, [.int (q4_0 5), .int (q4_1 5), .int (q4_2 5), .int (q4_3 5), .ref (q4_9 5), .ref (q4_10 5), .ref (q4_11 5), .ref (q4_12 5)])), ((q4_8 6), .inr (3, [.int (q4_0 6), .int (q4_1 6), .int (q4_2 6), .int (q4_3 6), .ref (q4_9 6), .ref (q4_10 6), .ref (q4_11 6), .ref (q4_12 6)])), ((q4_8 7), .inr (3, [.int (q4_0 7), .int (q4_1 7), .int (q4_2 7), .int (q4_3 7), .ref (q4_9 7), .ref (q4_10 7), .ref (q4_11 7), .ref (q4_12 7)])), (a_now_knows, .inl (c 0, 4, .inl x_now_knows)), ((q4_9 0), .inl (c 0, 4, .inl (q4_4 0))), ((q4_9 1), .inl (c 0, 4, .inl (q4_4 1))), ((q4_9 2), .inl (c 0, 4, .inl (q4_4 2))), ((q4_9 3), .inl (c 0, 4, .inl (q4_4 3))), ((q4_9 4), .inl (c 0, 4, .inl (q4_4 4))), ((q4_9 5), .inl (c 0, 4, .inl (q4_4 5))), ((q4_9 6), .inl (c 0, 4, .inl (q4_4 6))), ((q4_9 7), .inl (c 0, 4, .inl (q4_4 7))), (a_now_kind, .inl (c 0, 5, .inl x_now_kind)), ((q4_10 0), .inl (c 0, 5, .inl (q4_5 0))), ((q4_10 1), .inl (c 0, 5, .inl (q4_5 1))), ((q4_10 2), .inl (c 0, 5, .inl (q4_5 2))), ((q4_10 3), .inl (c 0, 5, .inl (q4_5 3))), ((q4_10 4), .inl (c 0, 5, .inl (q4_5 4))), ((q4_10 5), .inl (c 0, 5, .inl (q4_5 5))), ((q4_10 6), .inl (c 0, 5, .inl (q4_5 6))), ((q4_10 7), .inl (c 0, 5, .inl (q4_5 7))), (a_now_on, .inl (c 0, 5, .inl x_now_on)), ((q4_11 0), .inl (c 0, 5, .inl (q4_6 0))), ((q4_11 1), .inl (c 0, 5, .inl (q4_6 1))), ((q4_11 2), .inl (c 0, 5, .inl (q4_6 2))), ((q4_11 3), .inl (c 0, 5, .inl (q4_6 3))), ((q4_11 4), .inl (c 0, 5, .inl (q4_6 4))), ((q4_11 5), .inl (c 0, 5, .inl (q4_6 5))), ((q4_11 6), .inl (c 0, 5, .inl (q4_6 6))), ((q4_11 7), .inl (c 0, 5, .inl (q4_6 7))), (a_now_has, .inl (c 0, 5, .inl x_now_has)), ((q4_12 0), .inl (c 0, 5, .inl (q4_7 0))), ((q4_12 1), .inl (c 0, 5, .inl (q4_7 1))), ((q4_12 2), .inl (c 0, 5, .inl (q4_7 2))), ((q4_12 3), .inl (c 0, 5, .inl (q4_7 3))), ((q4_12 4), .inl (c 0, 5, .inl (q4_7 4))), ((q4_12 5), .inl (c 0, 5, .inl (q4_7 5))), ((q4_12 6), .inl (c 0, 5, .inl (q4_7 6))), ((q4_12 7), .inl (c 0, 5, .inl (q4_7 7))), (a_facts, .inr (0, [.int x_facts_size, .ref a_facts_leans, .ref a_facts_all, .ref a_facts_lostWith])), (a_facts_lostWith, .inl (c 0, 12, .inl x_facts_lostWith))]) (x_goV (As := []) (rest := []) ⟨hx, hb, hml, hown, hts⟩ (mX7_remember l D c a_this a_text a_facts a_told a_now a_trial a_past a_kept a_sightings a_plan a_slates a_reckoned a_now_knows a_now_kind a_now_on a_now_has H.size x_keptBits x_now_members x_now_leeches x_now_basin x_now_minute x_now_knows x_now_kind x_now_on x_now_has x_past_members x_past_leeches x_past_basin x_past_minute x_past_knows x_past_kind x_past_on x_past_has a_past_e a_past_knows a_past_kind a_past_on a_past_has xp_past x_undoable n _ _ _ _ _ _ _ _ _ _ _ _ _ _ _ hc4 hp_past) (cwV 0 hts gX7_minute_X7_remember rfl rfl rfl (by decide +kernel) ⟨Nat.le_of_ble_eq_true rfl, Nat.le_of_ble_eq_true rfl⟩) xB_t hP hD hK [0, 2, 3, 4, 5, 6, 7, 8, 9, 10, 1, 11, 12, 13, 14, 15, 16, 17, 18, 19, 20, 21, 22, 23, 24, 25, 26, 27, 28, 29, 30, 31, 32, 33, 34, 35, 36, 37, 38, 39, 40, 41, 42, 43, 44, 45, 46] rfl (by decide) (fun _ _ _ => trivial) 0 7 rfl rfl rfl rfl hl.1 rfl (Nat.le_of_ble_eq_true rfl) dX7_minute_33) hP hD hS hA [0, 2, 3, 4, 5, 6, 7, 8, 9, 10, 1, 11, 12, 13, 14, 15, 16, 17, 18, 19, 20, 21, 22, 23, 24, 25, 26, 27, 28, 29, 30, 31, 32, 33, 34, 35, 36, 37, 38, 39, 40, 41, 42, 43, 44, 45, 46] [47, 48] [2, 12, 3, 4, 5, 6, 7, 8, 9, 10, 11, 13, 14, 15, 16, 17, 18, 19, 20, 21, 22, 23, 24, 25, 26, 27, 28, 29, 30, 31, 32, 33, 34, 35, 36, 37, 38, 39, 40, 41, 42, 43, 44, 45, 46, 47, 48, 0, 1] rfl rfl rfl ⟨by decide, by decide, by decide⟩ (fun H locs hP hD hS => ?_)
        have hp_past := hpX7_remember hc4 hp_past
        refine lv_aload_n hx hb dX7_minute_36 rfl (lv_at hl 0 rfl) ?_
        refine va_get (D := D) (ci := 7) (v := .ref a_now) (C := RX7) (T := TX7) (N := 13) hx hb hts inX7_minute_X7 hown hK hP 0 rfl rfl 3 (by decide) (hts _ lkX7_minute_f30) (fun _ h9 => h9) rfl dX7_minute_37 ?_
        refine lv_aload_n hx hb dX7_minute_40 rfl (lv_at hl 0 rfl) ?_
        refine va_get (D := D) (ci := 7) (v := .ref a_facts) (C := RX7) (T := TX7) (N := 13) hx hb hts inX7_minute_X7 hown hK hP 0 rfl rfl 1 (by decide) (hts _ lkX7_minute_f19) (fun _ h9 => h9) rfl dX7_minute_41 ?_
        refine lv_iload_n hx hb dX7_minute_44 rfl (lv_at hl 1 rfl) ?_
        obtain ⟨⟨q5_0, q5_1, q5_2, q5_3⟩, hc5, hr⟩ := x_bind hr
        try dsimp only at hr
        refine x_runv (wr := [(a_this, .inr (7, [.ref a_text, .ref a_facts, .ref a_told, .ref a_now, .ref a_trial, .ref a_past, .int q4_14, .ref a_kept, .int x_keptBits, .ref a_sightings, .ref a_plan, .ref a_slates, .ref a_reckoned])), (a_past, .inl (c 3, 8, .inr (.inr (.inr (.inr q4_13))))), ((q4_8 0), .inr (3, [.int (q4_0 0), .int (q4_1 0), .int (q4_2 0), .int (q4_3 0), .ref (q4_9 0), .ref (q4_10 0), .ref (q4_11 0), .ref (q4_12 0)])), ((q4_8 1), .inr (3, [.int (q4_0 1), .int (q4_1 1), .int (q4_2 1), .int (q4_3 1), .ref (q4_9 1), .ref (q4_10 1), .ref (q4_11 1), .ref (q4_12 1)])), ((q4_8 2), .inr (3, [.int (q4_0 2), .int (q4_1 2), .int (q4_2 2), .int (q4_3 2), .ref (q4_9 2), .ref (q4_10 2), .ref (q4_11 2), .ref (q4_12 2)])), ((q4_8 3), .inr (3, [.int (q4_0 3), .int (q4_1 3), .int (q4_2 3), .int (q4_3 3), .ref (q4_9 3), .ref (q4_10 3), .ref (q4_11 3), .ref (q4_12 3)])), ((q4_8 4), .inr (3, [.int (q4_0 4), .int (q4_1 4), .int (q4_2 4), .int (q4_3 4), .ref (q4_9 4), .ref (q4_10 4), .ref (q4_11 4), .ref (q4_12 4)])), ((q4_8 5), .inr (3, [.int (q4_0 5), .int (q4_1 5), .int (q4_2 5), .int (q4_3 5), .ref (q4_9 5), .ref (q4_10 5), .ref (q4_11 5), .ref (q4_12 5)])), ((q4_8 6), .inr (3, [.int (q4_0 6), .int (q4_1 6), .int (q4_2 6), .int (q4_3 6), .ref (q4_9 6), .ref (q4_10 6), .ref (q4_11 6), .ref (q4_12 6)])), ((q4_8 7), .inr (3, [.int (q4_0 7), .int (q4_1 7), .int (q4_2 7), .int (q4_3 7), .ref (q4_9 7), .ref (q4_10 7), .ref (q4_11 7), .ref (q4_12 7)])), ((q4_9 0), .inl (c 0, 4, .inl (q4_4 0))), ((q4_9 1), .inl (c 0, 4, .inl (q4_4 1))), ((q4_9 2), .inl (c 0, 4, .inl (q4_4 2))), ((q4_9 3), .inl (c 0, 4, .inl (q4_4 3))), ((q4_9 4), .inl (c 0, 4, .inl (q4_4 4))), ((q4_9 5), .inl (c 0, 4, .inl (q4_4 5))), ((q4_9 6), .inl (c 0, 4, .inl (q4_4 6))), ((q4_9 7), .inl (c 0, 4, .inl (q4_4 7))), ((q4_10 0), .inl (c 0, 5, .inl (q4_5 0))), ((q4_10 1), .inl (c 0, 5, .inl (q4_5 1))), ((q4_10 2), .inl (c 0, 5, .inl (q4_5 2))), ((q4_10 3), .inl (c 0, 5, .inl (q4_5 3))), ((q4_10 4), .inl (c 0, 5, .inl (q4_5 4))), ((q4_10 5), .inl (c 0, 5, .inl (q4_5 5))), ((q4_10 6), .inl (c 0, 5, .inl (q4_5 6))), ((q4_10 7), .inl (c 0, 5, .inl (q4_5 7))), ((q4_11 0), .inl (c 0, 5, .inl (q4_6 0))), ((q4_11 1), .inl (c 0, 5, .inl (q4_6 1))), ((q4_11 2), .inl (c 0, 5, .inl (q4_6 2))), ((q4_11 3), .inl (c 0, 5, .inl (q4_6 3))), ((q4_11 4), .inl (c 0, 5, .inl (q4_6 4))), ((q4_11 5), .inl (c 0, 5, .inl (q4_6 5))), ((q4_11 6), .inl (c 0, 5, .inl (q4_6 6))), ((q4_11 7), .inl (c 0, 5, .inl (q4_6 7))), ((q4_12 0), .inl (c 0, 5, .inl (q4_7 0))), ((q4_12 1), .inl (c 0, 5, .inl (q4_7 1))), ((q4_12 2), .inl (c 0, 5, .inl (q4_7 2))), ((q4_12 3), .inl (c 0, 5, .inl (q4_7 3))), ((q4_12 4), .inl (c 0, 5, .inl (q4_7 4))), ((q4_12 5), .inl (c 0, 5, .inl (q4_7 5))), ((q4_12 6), .inl (c 0, 5, .inl (q4_7 6))), ((q4_12 7), .inl (c 0, 5, .inl (q4_7 7)))]) (wf := [(a_this, .inr (7, [.ref a_text, .ref a_facts, .ref a_told, .ref a_now, .ref a_trial, .ref a_past, .int q4_14, .ref a_kept, .int x_keptBits, .ref a_sightings, .ref a_plan, .ref a_slates, .ref a_reckoned])), (a_now, .inr (3, [.int x_now_members, .int x_now_leeches, .int x_now_basin, .int q5_0, .ref a_now_knows, .ref a_now_kind, .ref a_now_on, .ref a_now_has])), (a_past, .inl (c 3, 8, .inr (.inr (.inr (.inr q4_13))))), ((q4_8 0), .inr (3, [.int (q4_0 0), .int (q4_1 0), .int (q4_2 0), .int (q4_3 0), .ref (q4_9 0), .ref (q4_10 0), .ref (q4_11 0), .ref (q4_12 0)])), ((q4_8 1), .inr (3, [.int (q4_0 1), .int (q4_1 1), .int (q4_2 1), .int (q4_3 1), .ref (q4_9 1), .ref (q4_10 1), .ref (q4_11 1), .ref (q4_12 1)])), ((q4_8 2), .inr (3, [.int (q4_0 2), .int (q4_1 2), .int (q4_2 2), .int (q4_3 2), .ref (q4_9 2), .ref (q4_10 2), .ref (q4_11 2), .ref (q4_12 2)])), ((q4_8 3), .inr (3, [.int (q4_0 3), .int (q4_1 3), .int (q4_2 3), .int (q4_3 3), .ref (q4_9 3), .ref (q4_10 3), .ref (q4_11 3), .ref (q4_12 3)])), ((q4_8 4), .inr (3, [.int (q4_0 4), .int (q4_1 4), .int (q4_2 4), .int (q4_3 4), .ref (q4_9 4), .ref (q4_10 4), .ref (q4_11 4), .ref (q4_12 4)])), ((q4_8 5), .inr (3, [.int (q4_0 5), .int (q4_1 5), .int (q4_2 5), .int (q4_3 5), .ref (q4_9 5), .ref (q4_10 5), .ref (q4_11 5), .ref (q4_12 5)])), ((q4_8 6), .inr (3, [.int (q4_0 6), .int (q4_1 6), .int (q4_2 6), .int (q4_3 6), .ref (q4_9 6), .ref (q4_10 6), .ref (q4_11 6), .ref (q4_12 6)])), ((q4_8 7), .inr (3, [.int (q4_0 7), .int (q4_1 7), .int (q4_2 7), .int (q4_3 7), .ref (q4_9 7), .ref (q4_10 7), .ref (q4_11 7), .ref (q4_12 7)])), (a_now_knows, .inl (c 0, 4, .inl q5_2)), ((q4_9 0), .inl (c 0, 4, .inl (q4_4 0))), ((q4_9 1), .inl (c 0, 4, .inl (q4_4 1))), ((q4_9 2), .inl (c 0, 4, .inl (q4_4 2))), ((q4_9 3), .inl (c 0, 4, .inl (q4_4 3))), ((q4_9 4), .inl (c 0, 4, .inl (q4_4 4))), ((q4_9 5), .inl (c 0, 4, .inl (q4_4 5))), ((q4_9 6), .inl (c 0, 4, .inl (q4_4 6))), ((q4_9 7), .inl (c 0, 4, .inl (q4_4 7))), (a_now_kind, .inl (c 0, 5, .inl x_now_kind)), ((q4_10 0), .inl (c 0, 5, .inl (q4_5 0))), ((q4_10 1), .inl (c 0, 5, .inl (q4_5 1))), ((q4_10 2), .inl (c 0, 5, .inl (q4_5 2))), ((q4_10 3), .inl (c 0, 5, .inl (q4_5 3))), ((q4_10 4), .inl (c 0, 5, .inl (q4_5 4))), ((q4_10 5), .inl (c 0, 5, .inl (q4_5 5))), ((q4_10 6), .inl (c 0, 5, .inl (q4_5 6))), ((q4_10 7), .inl (c 0, 5, .inl (q4_5 7))), (a_now_on, .inl (c 0, 5, .inl q5_3)), ((q4_11 0), .inl (c 0, 5, .inl (q4_6 0))), ((q4_11 1), .inl (c 0, 5, .inl (q4_6 1))), ((q4_11 2), .inl (c 0, 5, .inl (q4_6 2))), ((q4_11 3), .inl (c 0, 5, .inl (q4_6 3))), ((q4_11 4), .inl (c 0, 5, .inl (q4_6 4))), ((q4_11 5), .inl (c 0, 5, .inl (q4_6 5))), ((q4_11 6), .inl (c 0, 5, .inl (q4_6 6))), ((q4_11 7), .inl (c 0, 5, .inl (q4_6 7))), (a_now_has, .inl (c 0, 5, .inl q5_1)), ((q4_12 0), .inl (c 0, 5, .inl (q4_7 0))), ((q4_12 1), .inl (c 0, 5, .inl (q4_7 1))), ((q4_12 2), .inl (c 0, 5, .inl (q4_7 2))), ((q4_12 3), .inl (c 0, 5, .inl (q4_7 3))), ((q4_12 4), .inl (c 0, 5, .inl (q4_7 4))), ((q4_12 5), .inl (c 0, 5, .inl (q4_7 5))), ((q4_12 6), .inl (c 0, 5, .inl (q4_7 6))), ((q4_12 7), .inl (c 0, 5, .inl (q4_7 7))), (a_facts, .inr (0, [.int x_facts_size, .ref a_facts_leans, .ref a_facts_all, .ref a_facts_lostWith])), (a_facts_lostWith, .inl (c 0, 12, .inl x_facts_lostWith))]) (x_goV (As := [.ref a_facts, .int v1]) (rest := []) ⟨hx, hb, hml, hown, hts⟩ (mX3_pass l D c a_now a_facts a_now_knows a_now_kind a_now_on a_now_has a_facts_leans a_facts_all a_facts_lostWith ev H.size x_now_basin x_facts_size x_now_leeches x_now_members x_now_kind x_facts_lostWith x_now_minute x_now_has x_now_knows x_now_on v1 n _ _ _ _ hc5) (cwV 2 hts gX7_minute_X3_pass rfl rfl rfl (by decide +kernel) ⟨Nat.le_of_ble_eq_true rfl, Nat.le_of_ble_eq_true rfl⟩) xV_b hP hD hK [1, 29, 20, 38, 11, 47, 48] rfl (by decide) (fun U hU hW => xV_call hV hS (va_free hD hS hA [1, 29, 20, 38, 11, 47, 48] rfl) hU hW) 1 3 rfl rfl rfl rfl hl.1 rfl (Nat.le_of_ble_eq_true rfl) dX7_minute_45) hP hD hS hA [1, 29, 20, 38, 11, 47, 48] [0, 2, 3, 4, 5, 6, 7, 8, 9, 10, 12, 13, 14, 15, 16, 17, 18, 19, 21, 22, 23, 24, 25, 26, 27, 28, 30, 31, 32, 33, 34, 35, 36, 37, 39, 40, 41, 42, 43, 44, 45, 46] [0, 42, 1, 2, 3, 4, 5, 6, 7, 8, 9, 46, 10, 11, 12, 13, 14, 15, 16, 17, 44, 18, 19, 20, 21, 22, 23, 24, 25, 43, 26, 27, 28, 29, 30, 31, 32, 33, 45, 34, 35, 36, 37, 38, 39, 40, 41, 47, 48] rfl rfl rfl ⟨by decide, by decide, by decide⟩ (fun H locs hP hD hS => ?_)
        refine lv_aload_n hx hb dX7_minute_48 rfl (lv_at hl 0 rfl) ?_
        refine va_get (D := D) (ci := 7) (v := .ref a_now) (C := RX7) (T := TX7) (N := 13) hx hb hts inX7_minute_X7 hown hK hP 0 rfl rfl 3 (by decide) (hts _ lkX7_minute_f30) (fun _ h9 => h9) rfl dX7_minute_49 ?_
        refine va_get (D := D) (ci := 3) (v := .int q5_0) (C := RX3) (T := TX3) (N := 8) hx hb hts inX7_minute_X3 hown hK hP 1 rfl rfl 3 (by decide) (hts _ lkX7_minute_f169) (fun _ h9 => h9) rfl dX7_minute_52 ?_
        have g0 := x_some hr
        have e0 := x_p1 g0
        have g1 := x_p2 g0
        have e1 := x_p1 g1
        have g2 := x_p2 g1
        have e2 := x_p1 g2
        have g3 := x_p2 g2
        have e3 := x_p1 g3
        have g4 := x_p2 g3
        have e4 := x_p1 g4
        have g5 := x_p2 g4
        have e5 := x_p1 g5
        have g6 := x_p2 g5
        have e6 := x_p1 g6
        have g7 := x_p2 g6
        have e7 := x_p1 g7
        have g8 := x_p2 g7
        have e8 := x_p1 g8
        have g9 := x_p2 g8
        have e9 := x_p1 g9
        have g10 := x_p2 g9
        have e10 := x_p1 g10
        have g11 := x_p2 g10
        have e11 := x_p1 g11
        have g12 := x_p2 g11
        have e12 := x_p1 g12
        have g13 := x_p2 g12
        have e13 := x_p1 g13
        have g14 := x_p2 g13
        have e14 := x_p1 g14
        have g15 := x_p2 g14
        have e15 := x_p1 g15
        have g16 := x_p2 g15
        have e16 := x_p1 g16
        have g17 := x_p2 g16
        have e17 := x_p1 g17
        have g18 := x_p2 g17
        have e18 := x_p1 g18
        have e19 := x_p2 g18
        subst e0
        subst e1
        subst e2
        subst e3
        subst e4
        subst e5
        subst e6
        subst e7
        subst e8
        subst e9
        subst e10
        subst e11
        subst e12
        subst e13
        subst e14
        subst e15
        subst e16
        subst e17
        subst e18
        subst e19
        exact x_reti hx hb hret hlocks hP hD hK hS dX7_minute_55
      · have hr := x_iff hr c_3
        refine lv_bipush (v := (-5)) hx hb dX7_minute_29 (by decide) ?_
        have g0 := x_some hr
        have e0 := x_p1 g0
        have g1 := x_p2 g0
        have e1 := x_p1 g1
        have g2 := x_p2 g1
        have e2 := x_p1 g2
        have g3 := x_p2 g2
        have e3 := x_p1 g3
        have g4 := x_p2 g3
        have e4 := x_p1 g4
        have g5 := x_p2 g4
        have e5 := x_p1 g5
        have g6 := x_p2 g5
        have e6 := x_p1 g6
        have g7 := x_p2 g6
        have e7 := x_p1 g7
        have g8 := x_p2 g7
        have e8 := x_p1 g8
        have g9 := x_p2 g8
        have e9 := x_p1 g9
        have g10 := x_p2 g9
        have e10 := x_p1 g10
        have g11 := x_p2 g10
        have e11 := x_p1 g11
        have g12 := x_p2 g11
        have e12 := x_p1 g12
        have g13 := x_p2 g12
        have e13 := x_p1 g13
        have g14 := x_p2 g13
        have e14 := x_p1 g14
        have g15 := x_p2 g14
        have e15 := x_p1 g15
        have g16 := x_p2 g15
        have e16 := x_p1 g16
        have g17 := x_p2 g16
        have e17 := x_p1 g17
        have g18 := x_p2 g17
        have e18 := x_p1 g18
        have e19 := x_p2 g18
        subst e0
        subst e1
        subst e2
        subst e3
        subst e4
        subst e5
        subst e6
        subst e7
        subst e8
        subst e9
        subst e10
        subst e11
        subst e12
        subst e13
        subst e14
        subst e15
        subst e16
        subst e17
        subst e18
        subst e19
        exact x_reti hx hb hret hlocks hP hD hK hS dX7_minute_31
    · have hr := x_iff hr c_2
      exact kX7_minute_11 E0 a_this a_text a_facts a_told a_now a_trial a_past a_kept a_sightings a_plan a_slates a_reckoned a_now_knows a_now_kind a_now_on a_now_has a_facts_leans a_facts_all a_facts_lostWith ev x_keptBits x_facts_size x_now_members x_now_leeches x_now_basin x_now_kind x_facts_lostWith n r_ret rm_past_members rm_past_leeches rm_past_basin rm_past_minute rm_past_knows rm_past_kind rm_past_on rm_past_has ra_past_e ra_past_knows ra_past_kind ra_past_on ra_past_has rp_past rm_undoable rm_now_minute rm_now_has rm_now_knows rm_now_on hV x_past_members x_past_leeches x_past_basin x_past_minute x_past_knows x_past_kind x_past_on x_past_has a_past_e a_past_knows a_past_kind a_past_on a_past_has xp_past x_undoable x_now_minute x_now_has x_now_knows x_now_on hr hp_past H locs ls hP hD hS (lv_sub hl [] rfl)
set_option maxHeartbeats 4000000 in
set_option maxRecDepth 100000 in
theorem mX7_minute (l : Launch) (D : va_G) (c : Nat → ClassId) (a_this : Nat) (a_text : Nat) (a_facts : Nat) (a_told : Nat) (a_now : Nat) (a_trial : Nat) (a_past : Nat) (a_kept : Nat) (a_sightings : Nat) (a_plan : Nat) (a_slates : Nat) (a_reckoned : Nat) (a_now_knows : Nat) (a_now_kind : Nat) (a_now_on : Nat) (a_now_has : Nat) (a_facts_leans : Nat) (a_facts_all : Nat) (a_facts_lostWith : Nat) (ev : Nat → Nat) (sz : Nat) (x_keptBits : Int32) (x_facts_size : Int32) (x_now_members : Int32) (x_now_leeches : Int32) (x_now_basin : Int32) (x_now_kind : Nat → Int32) (x_facts_lostWith : Nat → Int32) (x_past_members : Nat → Int32) (x_past_leeches : Nat → Int32) (x_past_basin : Nat → Int32) (x_past_minute : Nat → Int32) (x_past_knows : Nat → Nat → Int32) (x_past_kind : Nat → Nat → Int32) (x_past_on : Nat → Nat → Int32) (x_past_has : Nat → Nat → Int32) (a_past_e : Nat → Nat) (a_past_knows : Nat → Nat) (a_past_kind : Nat → Nat) (a_past_on : Nat → Nat) (a_past_has : Nat → Nat) (xp_past : Nat → Option Nat) (x_undoable : Int32) (x_now_minute : Int32) (x_now_has : Nat → Int32) (x_now_knows : Nat → Int32) (x_now_on : Nat → Int32) (v1 : Int32) (n : Nat) (r_ret : Int32) (rm_past_members : Nat → Int32) (rm_past_leeches : Nat → Int32) (rm_past_basin : Nat → Int32) (rm_past_minute : Nat → Int32) (rm_past_knows : Nat → Nat → Int32) (rm_past_kind : Nat → Nat → Int32) (rm_past_on : Nat → Nat → Int32) (rm_past_has : Nat → Nat → Int32) (ra_past_e : Nat → Nat) (ra_past_knows : Nat → Nat) (ra_past_kind : Nat → Nat) (ra_past_on : Nat → Nat) (ra_past_has : Nat → Nat) (rp_past : Nat → Option Nat) (rm_undoable : Int32) (rm_now_minute : Int32) (rm_now_has : Nat → Int32) (rm_now_knows : Nat → Int32) (rm_now_on : Nat → Int32) (h : fX7_minute n x_now_members x_now_leeches x_now_basin x_now_kind x_facts_lostWith x_past_members x_past_leeches x_past_basin x_past_minute x_past_knows x_past_kind x_past_on x_past_has a_past_e a_past_knows a_past_kind a_past_on a_past_has xp_past x_undoable x_now_minute x_now_has x_now_knows x_now_on v1 = some (r_ret, rm_past_members, rm_past_leeches, rm_past_basin, rm_past_minute, rm_past_knows, rm_past_kind, rm_past_on, rm_past_has, ra_past_e, ra_past_knows, ra_past_kind, ra_past_on, ra_past_has, rp_past, rm_undoable, rm_now_minute, rm_now_has, rm_now_knows, rm_now_on)) (hp_past : ∀ j, j < 8 → xp_past j = some (a_past_e j)) : Met l yX7_minute wsX7_minute ({ frames := 4, cells := 0, slots := 0, locals := 143 } : Room) (xPc D (xT c) sz [.ref a_this, .int v1] (wX7_minute c a_this a_text a_facts a_told a_now a_trial a_past a_kept a_sightings a_plan a_slates a_reckoned a_now_knows a_now_kind a_now_on a_now_has a_facts_leans a_facts_all a_facts_lostWith ev x_keptBits x_facts_size x_now_members x_now_leeches x_now_basin x_now_kind x_facts_lostWith x_past_members x_past_leeches x_past_basin x_past_minute x_past_knows x_past_kind x_past_on x_past_has a_past_e a_past_knows a_past_kind a_past_on a_past_has xp_past x_undoable x_now_minute x_now_has x_now_knows x_now_on) (xV ev (va_A (wX7_minute c a_this a_text a_facts a_told a_now a_trial a_past a_kept a_sightings a_plan a_slates a_reckoned a_now_knows a_now_kind a_now_on a_now_has a_facts_leans a_facts_all a_facts_lostWith ev x_keptBits x_facts_size x_now_members x_now_leeches x_now_basin x_now_kind x_facts_lostWith x_past_members x_past_leeches x_past_basin x_past_minute x_past_knows x_past_kind x_past_on x_past_has a_past_e a_past_knows a_past_kind a_past_on a_past_has xp_past x_undoable x_now_minute x_now_has x_now_knows x_now_on) sz))) (xQi D (xT c) (va_A (wX7_minute c a_this a_text a_facts a_told a_now a_trial a_past a_kept a_sightings a_plan a_slates a_reckoned a_now_knows a_now_kind a_now_on a_now_has a_facts_leans a_facts_all a_facts_lostWith ev x_keptBits x_facts_size x_now_members x_now_leeches x_now_basin x_now_kind x_facts_lostWith x_past_members x_past_leeches x_past_basin x_past_minute x_past_knows x_past_kind x_past_on x_past_has a_past_e a_past_knows a_past_kind a_past_on a_past_has xp_past x_undoable x_now_minute x_now_has x_now_knows x_now_on) sz) r_ret (wX7_minute c a_this a_text a_facts a_told a_now a_trial a_past a_kept a_sightings a_plan a_slates a_reckoned a_now_knows a_now_kind a_now_on a_now_has a_facts_leans a_facts_all a_facts_lostWith ev x_keptBits x_facts_size x_now_members x_now_leeches x_now_basin x_now_kind x_facts_lostWith rm_past_members rm_past_leeches rm_past_basin rm_past_minute rm_past_knows rm_past_kind rm_past_on rm_past_has ra_past_e ra_past_knows ra_past_kind ra_past_on ra_past_has rp_past rm_undoable rm_now_minute rm_now_has rm_now_knows rm_now_on)) 0 0 (va_A (wX7_minute c a_this a_text a_facts a_told a_now a_trial a_past a_kept a_sightings a_plan a_slates a_reckoned a_now_knows a_now_kind a_now_on a_now_has a_facts_leans a_facts_all a_facts_lostWith ev x_keptBits x_facts_size x_now_members x_now_leeches x_now_basin x_now_kind x_facts_lostWith x_past_members x_past_leeches x_past_basin x_past_minute x_past_knows x_past_kind x_past_on x_past_has a_past_e a_past_knows a_past_kind a_past_on a_past_has xp_past x_undoable x_now_minute x_now_has x_now_knows x_now_on) sz) := by
  refine Met.ofW (cc := cX7_minute) (maxL := 2) (ret := (some .int)) (by decide) rfl ?_
  intro p e s m args below meth cd s₁ B hml hv
  obtain ⟨rfl, hsz, hP, hK, hD0, hV⟩ := hv
  subst hsz
  have hl := lv_entry [.ref a_this, .int v1] (n := 2) (Nat.le_of_ble_eq_true rfl)
  rw [lg_entry_eq]
  exact kX7_minute_0 (A := va_A (wX7_minute c a_this a_text a_facts a_told a_now a_trial a_past a_kept a_sightings a_plan a_slates a_reckoned a_now_knows a_now_kind a_now_on a_now_has a_facts_leans a_facts_all a_facts_lostWith ev x_keptBits x_facts_size x_now_members x_now_leeches x_now_basin x_now_kind x_facts_lostWith x_past_members x_past_leeches x_past_basin x_past_minute x_past_knows x_past_kind x_past_on x_past_has a_past_e a_past_knows a_past_kind a_past_on a_past_has xp_past x_undoable x_now_minute x_now_has x_now_knows x_now_on) s.heap.size) ⟨B.exec, B.bytes, hml, B.returns, findClass_of_methodNamed B.named, atoms_spec (ws := wsX7_minute) B.pre, B.notSynchronized, fun q h => Or.inr h, hK⟩ a_this a_text a_facts a_told a_now a_trial a_past a_kept a_sightings a_plan a_slates a_reckoned a_now_knows a_now_kind a_now_on a_now_has a_facts_leans a_facts_all a_facts_lostWith ev x_keptBits x_facts_size x_now_members x_now_leeches x_now_basin x_now_kind x_facts_lostWith n r_ret rm_past_members rm_past_leeches rm_past_basin rm_past_minute rm_past_knows rm_past_kind rm_past_on rm_past_has ra_past_e ra_past_knows ra_past_kind ra_past_on ra_past_has rp_past rm_undoable rm_now_minute rm_now_has rm_now_knows rm_now_on hV x_past_members x_past_leeches x_past_basin x_past_minute x_past_knows x_past_kind x_past_on x_past_has a_past_e a_past_knows a_past_kind a_past_on a_past_has xp_past x_undoable x_now_minute x_now_has x_now_knows x_now_on v1 h hp_past s.heap [] _ hP hD0.self va_S.rf hl

