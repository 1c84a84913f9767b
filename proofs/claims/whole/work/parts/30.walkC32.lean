abbrev wX7_ask (c : Nat → ClassId) (a_this : Nat) (a_text : Nat) (a_facts : Nat) (a_told : Nat) (a_now : Nat) (a_trial : Nat) (a_past : Nat) (a_kept : Nat) (a_sightings : Nat) (a_plan : Nat) (a_slates : Nat) (a_reckoned : Nat) (a_now_knows : Nat) (a_now_kind : Nat) (a_now_on : Nat) (a_now_has : Nat) (a_sightings_member : Nat) (a_sightings_minutes : Nat) (a_sightings_fact : Nat) (a_sightings_knew : Nat) (a_trial_knows : Nat) (a_trial_kind : Nat) (a_trial_on : Nat) (a_trial_has : Nat) (a_facts_leans : Nat) (a_facts_all : Nat) (a_facts_lostWith : Nat) (ev : Nat → Nat) (x_undoable : Int32) (x_keptBits : Int32) (x_now_leeches : Int32) (x_now_basin : Int32) (x_now_minute : Int32) (x_now_members : Int32) (x_sightings_size : Int32) (x_sightings_member : Nat → Int32) (x_now_knows : Nat → Int32) (x_sightings_minutes : Nat → Int32) (x_facts_lostWith : Nat → Int32) (x_sightings_fact : Nat → Int32) (x_sightings_knew : Nat → Int32) (x_facts_size : Int32) (x_trial_members : Int32) (x_trial_leeches : Int32) (x_trial_basin : Int32) (x_trial_minute : Int32) (x_trial_knows : Nat → Int32) (x_trial_kind : Nat → Int32) (x_trial_on : Nat → Int32) (x_trial_has : Nat → Int32) : va_W := [(a_this, .inr (7, [.ref a_text, .ref a_facts, .ref a_told, .ref a_now, .ref a_trial, .ref a_past, .int x_undoable, .ref a_kept, .int x_keptBits, .ref a_sightings, .ref a_plan, .ref a_slates, .ref a_reckoned])), (a_now, .inr (3, [.int x_now_members, .int x_now_leeches, .int x_now_basin, .int x_now_minute, .ref a_now_knows, .ref a_now_kind, .ref a_now_on, .ref a_now_has])), (a_sightings, .inr (4, [.int x_sightings_size, .ref a_sightings_member, .ref a_sightings_minutes, .ref a_sightings_fact, .ref a_sightings_knew])), (a_sightings_member, .inl (c 0, 6, .inl x_sightings_member)), (a_now_knows, .inl (c 0, 4, .inl x_now_knows)), (a_sightings_minutes, .inl (c 0, 6, .inl x_sightings_minutes)), (a_trial, .inr (3, [.int x_trial_members, .int x_trial_leeches, .int x_trial_basin, .int x_trial_minute, .ref a_trial_knows, .ref a_trial_kind, .ref a_trial_on, .ref a_trial_has])), (a_trial_knows, .inl (c 0, 4, .inl x_trial_knows)), (a_trial_kind, .inl (c 0, 5, .inl x_trial_kind)), (a_trial_on, .inl (c 0, 5, .inl x_trial_on)), (a_trial_has, .inl (c 0, 5, .inl x_trial_has)), (a_facts, .inr (0, [.int x_facts_size, .ref a_facts_leans, .ref a_facts_all, .ref a_facts_lostWith])), (a_facts_lostWith, .inl (c 0, 12, .inl x_facts_lostWith)), (a_sightings_fact, .inl (c 0, 6, .inl x_sightings_fact)), (a_sightings_knew, .inl (c 0, 6, .inl x_sightings_knew))]
def GX7_ask (p : Program) (l : Launch) (e : Env) (s : State) (m : MethodId) (args : Array Value) (below : List Frame) (meth : Method) (cd : Code) (D : va_G) (c : Nat → ClassId) (A : Nat → Prop) (a_this : Nat) (a_text : Nat) (a_facts : Nat) (a_told : Nat) (a_now : Nat) (a_trial : Nat) (a_past : Nat) (a_kept : Nat) (a_sightings : Nat) (a_plan : Nat) (a_slates : Nat) (a_reckoned : Nat) (a_now_knows : Nat) (a_now_kind : Nat) (a_now_on : Nat) (a_now_has : Nat) (a_sightings_member : Nat) (a_sightings_minutes : Nat) (a_sightings_fact : Nat) (a_sightings_knew : Nat) (a_trial_knows : Nat) (a_trial_kind : Nat) (a_trial_on : Nat) (a_trial_has : Nat) (a_facts_leans : Nat) (a_facts_all : Nat) (a_facts_lostWith : Nat) (ev : Nat → Nat) (x_undoable : Int32) (x_keptBits : Int32) (x_now_leeches : Int32) (x_now_basin : Int32) (x_now_minute : Int32) (x_now_members : Int32) (x_sightings_size : Int32) (x_sightings_member : Nat → Int32) (x_now_knows : Nat → Int32) (x_sightings_minutes : Nat → Int32) (x_facts_lostWith : Nat → Int32) (x_sightings_fact : Nat → Int32) (x_sightings_knew : Nat → Int32) (x_facts_size : Int32) (r_ret : Int32) (rm_trial_members : Int32) (rm_trial_leeches : Int32) (rm_trial_basin : Int32) (rm_trial_minute : Int32) (rm_trial_knows : Nat → Int32) (rm_trial_kind : Nat → Int32) (rm_trial_on : Nat → Int32) (rm_trial_has : Nat → Int32) (pc : Nat) (st : List Value) (loc : List (Nat × Value)) (x_trial_members : Int32) (x_trial_leeches : Int32) (x_trial_basin : Int32) (x_trial_minute : Int32) (x_trial_knows : Nat → Int32) (x_trial_kind : Nat → Int32) (x_trial_on : Nat → Int32) (x_trial_has : Nat → Int32) : Prop :=
  ∀ (H : Heap) (locs : List Loc) (ls : Array Slot), va_P D vwCl (wX7_ask c a_this a_text a_facts a_told a_now a_trial a_past a_kept a_sightings a_plan a_slates a_reckoned a_now_knows a_now_kind a_now_on a_now_has a_sightings_member a_sightings_minutes a_sightings_fact a_sightings_knew a_trial_knows a_trial_kind a_trial_on a_trial_has a_facts_leans a_facts_all a_facts_lostWith ev x_undoable x_keptBits x_now_leeches x_now_basin x_now_minute x_now_members x_sightings_size x_sightings_member x_now_knows x_sightings_minutes x_facts_lostWith x_sightings_fact x_sightings_knew x_facts_size x_trial_members x_trial_leeches x_trial_basin x_trial_minute x_trial_knows x_trial_kind x_trial_on x_trial_has) H → va_D A (wX7_ask c a_this a_text a_facts a_told a_now a_trial a_past a_kept a_sightings a_plan a_slates a_reckoned a_now_knows a_now_kind a_now_on a_now_has a_sightings_member a_sightings_minutes a_sightings_fact a_sightings_knew a_trial_knows a_trial_kind a_trial_on a_trial_has a_facts_leans a_facts_all a_facts_lostWith ev x_undoable x_keptBits x_now_leeches x_now_basin x_now_minute x_now_members x_sightings_size x_sightings_member x_now_knows x_sightings_minutes x_facts_lostWith x_sightings_fact x_sightings_knew x_facts_size x_trial_members x_trial_leeches x_trial_basin x_trial_minute x_trial_knows x_trial_kind x_trial_on x_trial_has) → va_S A s.heap H locs → lv_has ls 8 loc → W p l e ({ frames := 7, cells := 0, slots := 0, locals := 163 } : Room) s m args below meth cd H locs 0 0 (MQ below (xQi D (xT c) A r_ret (wX7_ask c a_this a_text a_facts a_told a_now a_trial a_past a_kept a_sightings a_plan a_slates a_reckoned a_now_knows a_now_kind a_now_on a_now_has a_sightings_member a_sightings_minutes a_sightings_fact a_sightings_knew a_trial_knows a_trial_kind a_trial_on a_trial_has a_facts_leans a_facts_all a_facts_lostWith ev x_undoable x_keptBits x_now_leeches x_now_basin x_now_minute x_now_members x_sightings_size x_sightings_member x_now_knows x_sightings_minutes x_facts_lostWith x_sightings_fact x_sightings_knew x_facts_size rm_trial_members rm_trial_leeches rm_trial_basin rm_trial_minute rm_trial_knows rm_trial_kind rm_trial_on rm_trial_has)) args s 0 0 A) (F0 m pc ls st)
theorem lkX7_ask_f116 : Cond.fieldLink RX7 116 "LeechClub$Room" "knows" "[I" ∈ wsX7_ask := by decide +kernel
theorem lkX7_ask_f187 : Cond.fieldLink RX7 187 "LeechClub$Facts" "size" "I" ∈ wsX7_ask := by decide +kernel
theorem lkX7_ask_f19 : Cond.fieldLink RX7 19 "LeechClub" "facts" "LLeechClub$Facts;" ∈ wsX7_ask := by decide +kernel
theorem lkX7_ask_f30 : Cond.fieldLink RX7 30 "LeechClub" "now" "LLeechClub$Room;" ∈ wsX7_ask := by decide +kernel
theorem inX7_ask_X7 : ∀ w ∈ wsX70, w ∈ wsX7_ask := by decide +kernel
theorem inX7_ask_X0 : ∀ w ∈ wsX00, w ∈ wsX7_ask := by decide +kernel
theorem inX7_ask_X3 : ∀ w ∈ wsX30, w ∈ wsX7_ask := by decide +kernel
set_option maxHeartbeats 4000000 in
set_option maxRecDepth 100000 in
theorem kX7_ask_25 {p : Program} {l : Launch} {e : Env} {s : State} {m : MethodId} {args : Array Value} {below : List Frame} {meth : Method} {cd : Code} {D : va_G} {c : Nat → ClassId} {A : Nat → Prop} (E0 : xE p s m args meth cd D (xT c) A RX7 cX7_ask 8 (some .int) wsX7_ask) (a_this : Nat) (a_text : Nat) (a_facts : Nat) (a_told : Nat) (a_now : Nat) (a_trial : Nat) (a_past : Nat) (a_kept : Nat) (a_sightings : Nat) (a_plan : Nat) (a_slates : Nat) (a_reckoned : Nat) (a_now_knows : Nat) (a_now_kind : Nat) (a_now_on : Nat) (a_now_has : Nat) (a_sightings_member : Nat) (a_sightings_minutes : Nat) (a_sightings_fact : Nat) (a_sightings_knew : Nat) (a_trial_knows : Nat) (a_trial_kind : Nat) (a_trial_on : Nat) (a_trial_has : Nat) (a_facts_leans : Nat) (a_facts_all : Nat) (a_facts_lostWith : Nat) (ev : Nat → Nat) (x_undoable : Int32) (x_keptBits : Int32) (x_now_leeches : Int32) (x_now_basin : Int32) (x_now_minute : Int32) (x_now_members : Int32) (x_sightings_size : Int32) (x_sightings_member : Nat → Int32) (x_now_knows : Nat → Int32) (x_sightings_minutes : Nat → Int32) (x_facts_lostWith : Nat → Int32) (x_sightings_fact : Nat → Int32) (x_sightings_knew : Nat → Int32) (x_facts_size : Int32) (n : Nat) (r_ret : Int32) (rm_trial_members : Int32) (rm_trial_leeches : Int32) (rm_trial_basin : Int32) (rm_trial_minute : Int32) (rm_trial_knows : Nat → Int32) (rm_trial_kind : Nat → Int32) (rm_trial_on : Nat → Int32) (rm_trial_has : Nat → Int32) (hV : xV ev A s) (x_trial_members : Int32) (x_trial_leeches : Int32) (x_trial_basin : Int32) (x_trial_minute : Int32) (x_trial_knows : Nat → Int32) (x_trial_kind : Nat → Int32) (x_trial_on : Nat → Int32) (x_trial_has : Nat → Int32) (hr : fX7_ask_25 n x_now_members x_sightings_size x_sightings_member x_now_knows x_sightings_minutes x_facts_lostWith x_sightings_fact x_sightings_knew x_facts_size x_trial_members x_trial_leeches x_trial_basin x_trial_minute x_trial_knows x_trial_kind x_trial_on x_trial_has = some (r_ret, rm_trial_members, rm_trial_leeches, rm_trial_basin, rm_trial_minute, rm_trial_knows, rm_trial_kind, rm_trial_on, rm_trial_has)) : GX7_ask p l e s m args below meth cd D c A a_this a_text a_facts a_told a_now a_trial a_past a_kept a_sightings a_plan a_slates a_reckoned a_now_knows a_now_kind a_now_on a_now_has a_sightings_member a_sightings_minutes a_sightings_fact a_sightings_knew a_trial_knows a_trial_kind a_trial_on a_trial_has a_facts_leans a_facts_all a_facts_lostWith ev x_undoable x_keptBits x_now_leeches x_now_basin x_now_minute x_now_members x_sightings_size x_sightings_member x_now_knows x_sightings_minutes x_facts_lostWith x_sightings_fact x_sightings_knew x_facts_size r_ret rm_trial_members rm_trial_leeches rm_trial_basin rm_trial_minute rm_trial_knows rm_trial_kind rm_trial_on rm_trial_has 25 [] [] x_trial_members x_trial_leeches x_trial_basin x_trial_minute x_trial_knows x_trial_kind x_trial_on x_trial_has := by
  have E1 := E0
  obtain ⟨hx, hb, hml, hret, hown, hts, hlocks, hA, hK⟩ := E1
  have hVV := hV
  obtain ⟨hn_RX7_9, hn_RX6_17, hn_RX6_24, hn_RX7_18, hn_RX7_25, hn_RX7_45, hn_RX7_52, hn_RX7_65, hn_RX7_70, hn_RX0_31, hn_RX3_53, hn_RX2_57, hn_RX3_65, hn_RX3_86, hz_TAKES, ht_TAKES, hz_HAS_ROOM, ht_HAS_ROOM, hz_SUCH, ht_SUCH, hz_FIRST_FIGURE, ht_FIRST_FIGURE, hz_compact, hz_sioobe, ho_Room, ho_Slate, ho_grid, hstr, hs_0, hs_1, hs_2, hs_3, hs_4, hs_5, hs_6, hs_7, hs_8⟩ := hVV
  intro H locs ls hP hD hS hl
  unfold fX7_ask_25 at hr
  refine lv_bipush (v := (-3)) hx hb dX7_ask_25 (by decide) ?_
  have g0 := x_some hr
  have e0 := x_p1 g0
  have g1 := x_p2 g0
  have e1 := x_p1 g1
  have g2 := x_p2 g1
  have e2 := x_p1 g2
  have g3 := x_p2 g2
  have e3 := x_p1 g3
  have g4 := x_p2 g3
  have e4 := x_p1 g4
  have g5 := x_p2 g4
  have e5 := x_p1 g5
  have g6 := x_p2 g5
  have e6 := x_p1 g6
  have g7 := x_p2 g6
  have e7 := x_p1 g7
  have e8 := x_p2 g7
  subst e0
  subst e1
  subst e2
  subst e3
  subst e4
  subst e5
  subst e6
  subst e7
  subst e8
  exact x_reti hx hb hret hlocks hP hD hK hS dX7_ask_27
set_option maxHeartbeats 4000000 in
set_option maxRecDepth 100000 in
theorem kX7_ask_91 {p : Program} {l : Launch} {e : Env} {s : State} {m : MethodId} {args : Array Value} {below : List Frame} {meth : Method} {cd : Code} {D : va_G} {c : Nat → ClassId} {A : Nat → Prop} (E0 : xE p s m args meth cd D (xT c) A RX7 cX7_ask 8 (some .int) wsX7_ask) (a_this : Nat) (a_text : Nat) (a_facts : Nat) (a_told : Nat) (a_now : Nat) (a_trial : Nat) (a_past : Nat) (a_kept : Nat) (a_sightings : Nat) (a_plan : Nat) (a_slates : Nat) (a_reckoned : Nat) (a_now_knows : Nat) (a_now_kind : Nat) (a_now_on : Nat) (a_now_has : Nat) (a_sightings_member : Nat) (a_sightings_minutes : Nat) (a_sightings_fact : Nat) (a_sightings_knew : Nat) (a_trial_knows : Nat) (a_trial_kind : Nat) (a_trial_on : Nat) (a_trial_has : Nat) (a_facts_leans : Nat) (a_facts_all : Nat) (a_facts_lostWith : Nat) (ev : Nat → Nat) (x_undoable : Int32) (x_keptBits : Int32) (x_now_leeches : Int32) (x_now_basin : Int32) (x_now_minute : Int32) (x_now_members : Int32) (x_sightings_size : Int32) (x_sightings_member : Nat → Int32) (x_now_knows : Nat → Int32) (x_sightings_minutes : Nat → Int32) (x_facts_lostWith : Nat → Int32) (x_sightings_fact : Nat → Int32) (x_sightings_knew : Nat → Int32) (x_facts_size : Int32) (n : Nat) (r_ret : Int32) (rm_trial_members : Int32) (rm_trial_leeches : Int32) (rm_trial_basin : Int32) (rm_trial_minute : Int32) (rm_trial_knows : Nat → Int32) (rm_trial_kind : Nat → Int32) (rm_trial_on : Nat → Int32) (rm_trial_has : Nat → Int32) (hV : xV ev A s) (r_45 : Int32 → Int32 → Int32 → Int32 → (Nat → Int32) → (Nat → Int32) → (Nat → Int32) → (Nat → Int32) → Int32 → Int32 → Int32 → Int32 → Int32 → Int32 → Option (Int32 × Int32 × Int32 × Int32 × Int32 × (Nat → Int32) × (Nat → Int32) × (Nat → Int32) × (Nat → Int32))) (h_45 : ∀ (x_trial_members : Int32) (x_trial_leeches : Int32) (x_trial_basin : Int32) (x_trial_minute : Int32) (x_trial_knows : Nat → Int32) (x_trial_kind : Nat → Int32) (x_trial_on : Nat → Int32) (x_trial_has : Nat → Int32) (v1 : Int32) (v2 : Int32) (v3 : Int32) (v4 : Int32) (v5 : Int32) (v6 : Int32), r_45 x_trial_members x_trial_leeches x_trial_basin x_trial_minute x_trial_knows x_trial_kind x_trial_on x_trial_has v1 v2 v3 v4 v5 v6 = some (r_ret, rm_trial_members, rm_trial_leeches, rm_trial_basin, rm_trial_minute, rm_trial_knows, rm_trial_kind, rm_trial_on, rm_trial_has) → GX7_ask p l e s m args below meth cd D c A a_this a_text a_facts a_told a_now a_trial a_past a_kept a_sightings a_plan a_slates a_reckoned a_now_knows a_now_kind a_now_on a_now_has a_sightings_member a_sightings_minutes a_sightings_fact a_sightings_knew a_trial_knows a_trial_kind a_trial_on a_trial_has a_facts_leans a_facts_all a_facts_lostWith ev x_undoable x_keptBits x_now_leeches x_now_basin x_now_minute x_now_members x_sightings_size x_sightings_member x_now_knows x_sightings_minutes x_facts_lostWith x_sightings_fact x_sightings_knew x_facts_size r_ret rm_trial_members rm_trial_leeches rm_trial_basin rm_trial_minute rm_trial_knows rm_trial_kind rm_trial_on rm_trial_has 45 [] [(0, .ref a_this), (1, .int v1), (2, .int v2), (3, .int v3), (4, .int v4), (5, .int v5), (6, .int v6)] x_trial_members x_trial_leeches x_trial_basin x_trial_minute x_trial_knows x_trial_kind x_trial_on x_trial_has) (x_trial_members : Int32) (x_trial_leeches : Int32) (x_trial_basin : Int32) (x_trial_minute : Int32) (x_trial_knows : Nat → Int32) (x_trial_kind : Nat → Int32) (x_trial_on : Nat → Int32) (x_trial_has : Nat → Int32) (v1 : Int32) (v2 : Int32) (v3 : Int32) (v4 : Int32) (v5 : Int32) (v6 : Int32) (hr : fX7_ask_91 n r_45 x_now_members x_sightings_size x_sightings_member x_now_knows x_sightings_minutes x_facts_lostWith x_sightings_fact x_sightings_knew x_facts_size x_trial_members x_trial_leeches x_trial_basin x_trial_minute x_trial_knows x_trial_kind x_trial_on x_trial_has v1 v2 v3 v4 v5 v6 = some (r_ret, rm_trial_members, rm_trial_leeches, rm_trial_basin, rm_trial_minute, rm_trial_knows, rm_trial_kind, rm_trial_on, rm_trial_has)) : GX7_ask p l e s m args below meth cd D c A a_this a_text a_facts a_told a_now a_trial a_past a_kept a_sightings a_plan a_slates a_reckoned a_now_knows a_now_kind a_now_on a_now_has a_sightings_member a_sightings_minutes a_sightings_fact a_sightings_knew a_trial_knows a_trial_kind a_trial_on a_trial_has a_facts_leans a_facts_all a_facts_lostWith ev x_undoable x_keptBits x_now_leeches x_now_basin x_now_minute x_now_members x_sightings_size x_sightings_member x_now_knows x_sightings_minutes x_facts_lostWith x_sightings_fact x_sightings_knew x_facts_size r_ret rm_trial_members rm_trial_leeches rm_trial_basin rm_trial_minute rm_trial_knows rm_trial_kind rm_trial_on rm_trial_has 91 [] [(0, .ref a_this), (1, .int v1), (2, .int v2), (3, .int v3), (4, .int v4), (5, .int v5), (6, .int v6)] x_trial_members x_trial_leeches x_trial_basin x_trial_minute x_trial_knows x_trial_kind x_trial_on x_trial_has := by
  have E1 := E0
  obtain ⟨hx, hb, hml, hret, hown, hts, hlocks, hA, hK⟩ := E1
  have hVV := hV
  obtain ⟨hn_RX7_9, hn_RX6_17, hn_RX6_24, hn_RX7_18, hn_RX7_25, hn_RX7_45, hn_RX7_52, hn_RX7_65, hn_RX7_70, hn_RX0_31, hn_RX3_53, hn_RX2_57, hn_RX3_65, hn_RX3_86, hz_TAKES, ht_TAKES, hz_HAS_ROOM, ht_HAS_ROOM, hz_SUCH, ht_SUCH, hz_FIRST_FIGURE, ht_FIRST_FIGURE, hz_compact, hz_sioobe, ho_Room, ho_Slate, ho_grid, hstr, hs_0, hs_1, hs_2, hs_3, hs_4, hs_5, hs_6, hs_7, hs_8⟩ := hVV
  intro H locs ls hP hD hS hl
  unfold fX7_ask_91 at hr
  refine lv_iinc (v := v6 + 1) (lv' := [(6, .int (v6 + 1)), (0, .ref a_this), (1, .int v1), (2, .int v2), (3, .int v3), (4, .int v4), (5, .int v5)]) hx hb dX7_ask_91 hl (k := 6) rfl rfl (by decide) rfl (fun ls hl => ?_)
  refine lv_goto (tgt := 45) hx hb dX7_ask_94 (by decide) ?_
  exact h_45 x_trial_members x_trial_leeches x_trial_basin x_trial_minute x_trial_knows x_trial_kind x_trial_on x_trial_has v1 v2 v3 v4 v5 (v6 + 1) hr H locs ls hP hD hS (lv_sub hl [1, 2, 3, 4, 5, 6, 0] rfl)
set_option maxHeartbeats 4000000 in
set_option maxRecDepth 100000 in
theorem kX7_ask_45 {p : Program} {l : Launch} {e : Env} {s : State} {m : MethodId} {args : Array Value} {below : List Frame} {meth : Method} {cd : Code} {D : va_G} {c : Nat → ClassId} {A : Nat → Prop} (E0 : xE p s m args meth cd D (xT c) A RX7 cX7_ask 8 (some .int) wsX7_ask) (a_this : Nat) (a_text : Nat) (a_facts : Nat) (a_told : Nat) (a_now : Nat) (a_trial : Nat) (a_past : Nat) (a_kept : Nat) (a_sightings : Nat) (a_plan : Nat) (a_slates : Nat) (a_reckoned : Nat) (a_now_knows : Nat) (a_now_kind : Nat) (a_now_on : Nat) (a_now_has : Nat) (a_sightings_member : Nat) (a_sightings_minutes : Nat) (a_sightings_fact : Nat) (a_sightings_knew : Nat) (a_trial_knows : Nat) (a_trial_kind : Nat) (a_trial_on : Nat) (a_trial_has : Nat) (a_facts_leans : Nat) (a_facts_all : Nat) (a_facts_lostWith : Nat) (ev : Nat → Nat) (x_undoable : Int32) (x_keptBits : Int32) (x_now_leeches : Int32) (x_now_basin : Int32) (x_now_minute : Int32) (x_now_members : Int32) (x_sightings_size : Int32) (x_sightings_member : Nat → Int32) (x_now_knows : Nat → Int32) (x_sightings_minutes : Nat → Int32) (x_facts_lostWith : Nat → Int32) (x_sightings_fact : Nat → Int32) (x_sightings_knew : Nat → Int32) (x_facts_size : Int32) (n : Nat) (r_ret : Int32) (rm_trial_members : Int32) (rm_trial_leeches : Int32) (rm_trial_basin : Int32) (rm_trial_minute : Int32) (rm_trial_knows : Nat → Int32) (rm_trial_kind : Nat → Int32) (rm_trial_on : Nat → Int32) (rm_trial_has : Nat → Int32) (hV : xV ev A s) : ∀ (k : Nat) (x_trial_members : Int32) (x_trial_leeches : Int32) (x_trial_basin : Int32) (x_trial_minute : Int32) (x_trial_knows : Nat → Int32) (x_trial_kind : Nat → Int32) (x_trial_on : Nat → Int32) (x_trial_has : Nat → Int32) (v1 : Int32) (v2 : Int32) (v3 : Int32) (v4 : Int32) (v5 : Int32) (v6 : Int32), fX7_ask_45 n x_now_members x_sightings_size x_sightings_member x_now_knows x_sightings_minutes x_facts_lostWith x_sightings_fact x_sightings_knew x_facts_size k x_trial_members x_trial_leeches x_trial_basin x_trial_minute x_trial_knows x_trial_kind x_trial_on x_trial_has v1 v2 v3 v4 v5 v6 = some (r_ret, rm_trial_members, rm_trial_leeches, rm_trial_basin, rm_trial_minute, rm_trial_knows, rm_trial_kind, rm_trial_on, rm_trial_has) → GX7_ask p l e s m args below meth cd D c A a_this a_text a_facts a_told a_now a_trial a_past a_kept a_sightings a_plan a_slates a_reckoned a_now_knows a_now_kind a_now_on a_now_has a_sightings_member a_sightings_minutes a_sightings_fact a_sightings_knew a_trial_knows a_trial_kind a_trial_on a_trial_has a_facts_leans a_facts_all a_facts_lostWith ev x_undoable x_keptBits x_now_leeches x_now_basin x_now_minute x_now_members x_sightings_size x_sightings_member x_now_knows x_sightings_minutes x_facts_lostWith x_sightings_fact x_sightings_knew x_facts_size r_ret rm_trial_members rm_trial_leeches rm_trial_basin rm_trial_minute rm_trial_knows rm_trial_kind rm_trial_on rm_trial_has 45 [] [(0, .ref a_this), (1, .int v1), (2, .int v2), (3, .int v3), (4, .int v4), (5, .int v5), (6, .int v6)] x_trial_members x_trial_leeches x_trial_basin x_trial_minute x_trial_knows x_trial_kind x_trial_on x_trial_has := by
  have E1 := E0
  obtain ⟨hx, hb, hml, hret, hown, hts, hlocks, hA, hK⟩ := E1
  have hVV := hV
  obtain ⟨hn_RX7_9, hn_RX6_17, hn_RX6_24, hn_RX7_18, hn_RX7_25, hn_RX7_45, hn_RX7_52, hn_RX7_65, hn_RX7_70, hn_RX0_31, hn_RX3_53, hn_RX2_57, hn_RX3_65, hn_RX3_86, hz_TAKES, ht_TAKES, hz_HAS_ROOM, ht_HAS_ROOM, hz_SUCH, ht_SUCH, hz_FIRST_FIGURE, ht_FIRST_FIGURE, hz_compact, hz_sioobe, ho_Room, ho_Slate, ho_grid, hstr, hs_0, hs_1, hs_2, hs_3, hs_4, hs_5, hs_6, hs_7, hs_8⟩ := hVV
  intro k
  induction k with
  | zero => intro x_trial_members x_trial_leeches x_trial_basin x_trial_minute x_trial_knows x_trial_kind x_trial_on x_trial_has v1 v2 v3 v4 v5 v6 hr; cases hr
  | succ k h_45 =>
    intro x_trial_members x_trial_leeches x_trial_basin x_trial_minute x_trial_knows x_trial_kind x_trial_on x_trial_has v1 v2 v3 v4 v5 v6 hr H locs ls hP hD hS hl
    unfold fX7_ask_45 at hr
    refine lv_iload hx hb dX7_ask_45 (lv_at hl 6 rfl) ?_
    refine lv_aload_n hx hb dX7_ask_47 rfl (lv_at hl 0 rfl) ?_
    refine va_get (D := D) (ci := 7) (v := .ref a_facts) (C := RX7) (T := TX7) (N := 13) hx hb hts inX7_ask_X7 hown hK hP 0 rfl rfl 1 (by decide) (hts _ lkX7_ask_f19) (fun _ h9 => h9) rfl dX7_ask_48 ?_
    refine va_get (D := D) (ci := 0) (v := .int x_facts_size) (C := RX0) (T := TX0) (N := 4) hx hb hts inX7_ask_X0 hown hK hP 11 rfl rfl 0 (by decide) (hts _ lkX7_ask_f187) (fun _ h9 => h9) rfl dX7_ask_51 ?_
    refine lv_icmp_ge (tgt := 97) hx hb dX7_ask_54 (by decide) (fun c_1 => ?_) (fun c_1 => ?_)
    · have hr := x_ift hr c_1
      refine lv_iload hx hb dX7_ask_97 (lv_at hl 4 rfl) ?_
      have g0 := x_some hr
      have e0 := x_p1 g0
      have g1 := x_p2 g0
      have e1 := x_p1 g1
      have g2 := x_p2 g1
      have e2 := x_p1 g2
      have g3 := x_p2 g2
      have e3 := x_p1 g3
      have g4 := x_p2 g3
      have e4 := x_p1 g4
      have g5 := x_p2 g4
      have e5 := x_p1 g5
      have g6 := x_p2 g5
      have e6 := x_p1 g6
      have g7 := x_p2 g6
      have e7 := x_p1 g7
      have e8 := x_p2 g7
      subst e0
      subst e1
      subst e2
      subst e3
      subst e4
      subst e5
      subst e6
      subst e7
      subst e8
      exact x_reti hx hb hret hlocks hP hD hK hS dX7_ask_99
    · have hr := x_iff hr c_1
      refine lv_aload_n hx hb dX7_ask_57 rfl (lv_at hl 0 rfl) ?_
      refine lv_aload_n hx hb dX7_ask_58 rfl (lv_at hl 0 rfl) ?_
      refine va_get (D := D) (ci := 7) (v := .ref a_now) (C := RX7) (T := TX7) (N := 13) hx hb hts inX7_ask_X7 hown hK hP 0 rfl rfl 3 (by decide) (hts _ lkX7_ask_f30) (fun _ h9 => h9) rfl dX7_ask_59 ?_
      refine va_get (D := D) (ci := 3) (v := .ref a_now_knows) (C := RX3) (T := TX3) (N := 8) hx hb hts inX7_ask_X3 hown hK hP 1 rfl rfl 4 (by decide) (hts _ lkX7_ask_f116) (fun _ h9 => h9) rfl dX7_ask_62 ?_
      refine lv_iload_n hx hb dX7_ask_65 rfl (lv_at hl 1 rfl) ?_
      obtain ⟨b_2, hr⟩ := x_chk hr
      refine va_iald hx hb hK hP 4 0 rfl rfl b_2 dX7_ask_66 ?_
      refine lv_iload_n hx hb dX7_ask_67 rfl (lv_at hl 2 rfl) ?_
      refine lv_iload hx hb dX7_ask_68 (lv_at hl 6 rfl) ?_
      refine lv_iload_n hx hb dX7_ask_70 rfl (lv_at hl 3 rfl) ?_
      obtain ⟨⟨q3_0, q3_1, q3_2, q3_3, q3_4, q3_5, q3_6, q3_7, q3_8⟩, hc3, hr⟩ := x_bind hr
      try dsimp only at hr
      refine x_runi (wr := [(a_now, .inr (3, [.int x_now_members, .int x_now_leeches, .int x_now_basin, .int x_now_minute, .ref a_now_knows, .ref a_now_kind, .ref a_now_on, .ref a_now_has])), (a_sightings, .inr (4, [.int x_sightings_size, .ref a_sightings_member, .ref a_sightings_minutes, .ref a_sightings_fact, .ref a_sightings_knew])), (a_sightings_member, .inl (c 0, 6, .inl x_sightings_member)), (a_now_knows, .inl (c 0, 4, .inl x_now_knows)), (a_sightings_minutes, .inl (c 0, 6, .inl x_sightings_minutes)), (a_sightings_fact, .inl (c 0, 6, .inl x_sightings_fact)), (a_sightings_knew, .inl (c 0, 6, .inl x_sightings_knew))]) (wf := [(a_this, .inr (7, [.ref a_text, .ref a_facts, .ref a_told, .ref a_now, .ref a_trial, .ref a_past, .int x_undoable, .ref a_kept, .int x_keptBits, .ref a_sightings, .ref a_plan, .ref a_slates, .ref a_reckoned])), (a_now, .inr (3, [.int x_now_members, .int x_now_leeches, .int x_now_basin, .int x_now_minute, .ref a_now_knows, .ref a_now_kind, .ref a_now_on, .ref a_now_has])), (a_sightings, .inr (4, [.int x_sightings_size, .ref a_sightings_member, .ref a_sightings_minutes, .ref a_sightings_fact, .ref a_sightings_knew])), (a_sightings_member, .inl (c 0, 6, .inl x_sightings_member)), (a_now_knows, .inl (c 0, 4, .inl x_now_knows)), (a_sightings_minutes, .inl (c 0, 6, .inl x_sightings_minutes)), (a_trial, .inr (3, [.int q3_1, .int q3_2, .int q3_3, .int q3_4, .ref a_trial_knows, .ref a_trial_kind, .ref a_trial_on, .ref a_trial_has])), (a_trial_knows, .inl (c 0, 4, .inl q3_5)), (a_trial_kind, .inl (c 0, 5, .inl q3_6)), (a_trial_on, .inl (c 0, 5, .inl q3_7)), (a_trial_has, .inl (c 0, 5, .inl q3_8)), (a_facts, .inr (0, [.int x_facts_size, .ref a_facts_leans, .ref a_facts_all, .ref a_facts_lostWith])), (a_facts_lostWith, .inl (c 0, 12, .inl x_facts_lostWith)), (a_sightings_fact, .inl (c 0, 6, .inl x_sightings_fact)), (a_sightings_knew, .inl (c 0, 6, .inl x_sightings_knew))]) (x_goV (As := [.int (x_now_knows v1.toNatClampNeg), .int v2, .int v6, .int v3]) (rest := []) ⟨hx, hb, hml, hown, hts⟩ (mX7_greatestPart l D c a_this a_text a_facts a_told a_now a_trial a_past a_kept a_sightings a_plan a_slates a_reckoned a_trial_knows a_trial_kind a_trial_on a_trial_has a_facts_leans a_facts_all a_facts_lostWith ev H.size x_undoable x_keptBits x_facts_size x_facts_lostWith x_trial_members x_trial_leeches x_trial_basin x_trial_minute x_trial_knows x_trial_kind x_trial_on x_trial_has (x_now_knows v1.toNatClampNeg) v2 v6 v3 n _ _ _ _ _ _ _ _ _ hc3) (cwV 4 hts gX7_ask_X7_greatestPart rfl rfl rfl (by decide +kernel) ⟨Nat.le_of_ble_eq_true rfl, Nat.le_of_ble_eq_true rfl⟩) xV_b hP hD hK [0, 6, 7, 8, 9, 10, 11, 12] rfl (by decide) (fun U hU hW => xV_call hV hS (va_free hD hS hA [0, 6, 7, 8, 9, 10, 11, 12] rfl) hU hW) 0 7 rfl rfl rfl rfl hl.1 rfl (Nat.le_of_ble_eq_true rfl) dX7_ask_71) hP hD hS hA [0, 6, 7, 8, 9, 10, 11, 12] [1, 2, 3, 4, 5, 13, 14] [7, 0, 1, 2, 3, 4, 8, 9, 10, 11, 12, 13, 14, 5, 6] rfl rfl rfl ⟨by decide, by decide, by decide⟩ (fun H locs hP hD hS => ?_)
      refine lv_istore (lv' := [(7, .int q3_0), (0, .ref a_this), (1, .int v1), (2, .int v2), (3, .int v3), (4, .int v4), (5, .int v5), (6, .int v6)]) hx hb dX7_ask_74 hl (by decide) rfl (fun ls hl => ?_)
      refine lv_iload hx hb dX7_ask_76 (lv_at hl 0 rfl) ?_
      refine lv_iload hx hb dX7_ask_78 (lv_at hl 6 rfl) ?_
      refine lv_icmp_ge (tgt := 91) hx hb dX7_ask_80 (by decide) (fun c_4 => ?_) (fun c_4 => ?_)
      · have hr := x_ift hr c_4
        exact kX7_ask_91 E0 a_this a_text a_facts a_told a_now a_trial a_past a_kept a_sightings a_plan a_slates a_reckoned a_now_knows a_now_kind a_now_on a_now_has a_sightings_member a_sightings_minutes a_sightings_fact a_sightings_knew a_trial_knows a_trial_kind a_trial_on a_trial_has a_facts_leans a_facts_all a_facts_lostWith ev x_undoable x_keptBits x_now_leeches x_now_basin x_now_minute x_now_members x_sightings_size x_sightings_member x_now_knows x_sightings_minutes x_facts_lostWith x_sightings_fact x_sightings_knew x_facts_size n r_ret rm_trial_members rm_trial_leeches rm_trial_basin rm_trial_minute rm_trial_knows rm_trial_kind rm_trial_on rm_trial_has hV (fX7_ask_45 n x_now_members x_sightings_size x_sightings_member x_now_knows x_sightings_minutes x_facts_lostWith x_sightings_fact x_sightings_knew x_facts_size k) h_45 q3_1 q3_2 q3_3 q3_4 q3_5 q3_6 q3_7 q3_8 v1 v2 v3 v4 v5 v6 hr H locs ls hP hD hS (lv_sub hl [1, 2, 3, 4, 5, 6, 7] rfl)
      · have hr := x_iff hr c_4
        refine lv_iload hx hb dX7_ask_83 (lv_at hl 0 rfl) ?_
        refine lv_istore (lv' := [(5, .int q3_0), (7, .int q3_0), (0, .ref a_this), (1, .int v1), (2, .int v2), (3, .int v3), (4, .int v4), (6, .int v6)]) hx hb dX7_ask_85 hl (by decide) rfl (fun ls hl => ?_)
        refine lv_iload hx hb dX7_ask_87 (lv_at hl 7 rfl) ?_
        refine lv_istore (lv' := [(4, .int v6), (5, .int q3_0), (7, .int q3_0), (0, .ref a_this), (1, .int v1), (2, .int v2), (3, .int v3), (6, .int v6)]) hx hb dX7_ask_89 hl (by decide) rfl (fun ls hl => ?_)
        exact kX7_ask_91 E0 a_this a_text a_facts a_told a_now a_trial a_past a_kept a_sightings a_plan a_slates a_reckoned a_now_knows a_now_kind a_now_on a_now_has a_sightings_member a_sightings_minutes a_sightings_fact a_sightings_knew a_trial_knows a_trial_kind a_trial_on a_trial_has a_facts_leans a_facts_all a_facts_lostWith ev x_undoable x_keptBits x_now_leeches x_now_basin x_now_minute x_now_members x_sightings_size x_sightings_member x_now_knows x_sightings_minutes x_facts_lostWith x_sightings_fact x_sightings_knew x_facts_size n r_ret rm_trial_members rm_trial_leeches rm_trial_basin rm_trial_minute rm_trial_knows rm_trial_kind rm_trial_on rm_trial_has hV (fX7_ask_45 n x_now_members x_sightings_size x_sightings_member x_now_knows x_sightings_minutes x_facts_lostWith x_sightings_fact x_sightings_knew x_facts_size k) h_45 q3_1 q3_2 q3_3 q3_4 q3_5 q3_6 q3_7 q3_8 v1 v2 v3 v6 q3_0 v6 hr H locs ls hP hD hS (lv_sub hl [3, 4, 5, 6, 0, 1, 7] rfl)
set_option maxHeartbeats 4000000 in
set_option maxRecDepth 100000 in
theorem kX7_ask_0 {p : Program} {l : Launch} {e : Env} {s : State} {m : MethodId} {args : Array Value} {below : List Frame} {meth : Method} {cd : Code} {D : va_G} {c : Nat → ClassId} {A : Nat → Prop} (E0 : xE p s m args meth cd D (xT c) A RX7 cX7_ask 8 (some .int) wsX7_ask) (a_this : Nat) (a_text : Nat) (a_facts : Nat) (a_told : Nat) (a_now : Nat) (a_trial : Nat) (a_past : Nat) (a_kept : Nat) (a_sightings : Nat) (a_plan : Nat) (a_slates : Nat) (a_reckoned : Nat) (a_now_knows : Nat) (a_now_kind : Nat) (a_now_on : Nat) (a_now_has : Nat) (a_sightings_member : Nat) (a_sightings_minutes : Nat) (a_sightings_fact : Nat) (a_sightings_knew : Nat) (a_trial_knows : Nat) (a_trial_kind : Nat) (a_trial_on : Nat) (a_trial_has : Nat) (a_facts_leans : Nat) (a_facts_all : Nat) (a_facts_lostWith : Nat) (ev : Nat → Nat) (x_undoable : Int32) (x_keptBits : Int32) (x_now_leeches : Int32) (x_now_basin : Int32) (x_now_minute : Int32) (x_now_members : Int32) (x_sightings_size : Int32) (x_sightings_member : Nat → Int32) (x_now_knows : Nat → Int32) (x_sightings_minutes : Nat → Int32) (x_facts_lostWith : Nat → Int32) (x_sightings_fact : Nat → Int32) (x_sightings_knew : Nat → Int32) (x_facts_size : Int32) (n : Nat) (r_ret : Int32) (rm_trial_members : Int32) (rm_trial_leeches : Int32) (rm_trial_basin : Int32) (rm_trial_minute : Int32) (rm_trial_knows : Nat → Int32) (rm_trial_kind : Nat → Int32) (rm_trial_on : Nat → Int32) (rm_trial_has : Nat → Int32) (hV : xV ev A s) (x_trial_members : Int32) (x_trial_leeches : Int32) (x_trial_basin : Int32) (x_trial_minute : Int32) (x_trial_knows : Nat → Int32) (x_trial_kind : Nat → Int32) (x_trial_on : Nat → Int32) (x_trial_has : Nat → Int32) (v1 : Int32) (v2 : Int32) (hr : fX7_ask n x_now_members x_sightings_size x_sightings_member x_now_knows x_sightings_minutes x_facts_lostWith x_sightings_fact x_sightings_knew x_facts_size x_trial_members x_trial_leeches x_trial_basin x_trial_minute x_trial_knows x_trial_kind x_trial_on x_trial_has v1 v2 = some (r_ret, rm_trial_members, rm_trial_leeches, rm_trial_basin, rm_trial_minute, rm_trial_knows, rm_trial_kind, rm_trial_on, rm_trial_has)) : GX7_ask p l e s m args below meth cd D c A a_this a_text a_facts a_told a_now a_trial a_past a_kept a_sightings a_plan a_slates a_reckoned a_now_knows a_now_kind a_now_on a_now_has a_sightings_member a_sightings_minutes a_sightings_fact a_sightings_knew a_trial_knows a_trial_kind a_trial_on a_trial_has a_facts_leans a_facts_all a_facts_lostWith ev x_undoable x_keptBits x_now_leeches x_now_basin x_now_minute x_now_members x_sightings_size x_sightings_member x_now_knows x_sightings_minutes x_facts_lostWith x_sightings_fact x_sightings_knew x_facts_size r_ret rm_trial_members rm_trial_leeches rm_trial_basin rm_trial_minute rm_trial_knows rm_trial_kind rm_trial_on rm_trial_has 0 [] [(0, .ref a_this), (1, .int v1), (2, .int v2)] x_trial_members x_trial_leeches x_trial_basin x_trial_minute x_trial_knows x_trial_kind x_trial_on x_trial_has := by
  have E1 := E0
  obtain ⟨hx, hb, hml, hret, hown, hts, hlocks, hA, hK⟩ := E1
  have hVV := hV
  obtain ⟨hn_RX7_9, hn_RX6_17, hn_RX6_24, hn_RX7_18, hn_RX7_25, hn_RX7_45, hn_RX7_52, hn_RX7_65, hn_RX7_70, hn_RX0_31, hn_RX3_53, hn_RX2_57, hn_RX3_65, hn_RX3_86, hz_TAKES, ht_TAKES, hz_HAS_ROOM, ht_HAS_ROOM, hz_SUCH, ht_SUCH, hz_FIRST_FIGURE, ht_FIRST_FIGURE, hz_compact, hz_sioobe, ho_Room, ho_Slate, ho_grid, hstr, hs_0, hs_1, hs_2, hs_3, hs_4, hs_5, hs_6, hs_7, hs_8⟩ := hVV
  intro H locs ls hP hD hS hl
  unfold fX7_ask at hr
  refine lv_aload_n hx hb dX7_ask_0 rfl (lv_at hl 0 rfl) ?_
  refine va_get (D := D) (ci := 7) (v := .ref a_now) (C := RX7) (T := TX7) (N := 13) hx hb hts inX7_ask_X7 hown hK hP 0 rfl rfl 3 (by decide) (hts _ lkX7_ask_f30) (fun _ h9 => h9) rfl dX7_ask_1 ?_
  refine lv_iload_n hx hb dX7_ask_4 rfl (lv_at hl 1 rfl) ?_
  obtain ⟨q1_0, hc1, hr⟩ := x_bind hr
  refine x_runi (wr := [(a_this, .inr (7, [.ref a_text, .ref a_facts, .ref a_told, .ref a_now, .ref a_trial, .ref a_past, .int x_undoable, .ref a_kept, .int x_keptBits, .ref a_sightings, .ref a_plan, .ref a_slates, .ref a_reckoned])), (a_sightings, .inr (4, [.int x_sightings_size, .ref a_sightings_member, .ref a_sightings_minutes, .ref a_sightings_fact, .ref a_sightings_knew])), (a_sightings_member, .inl (c 0, 6, .inl x_sightings_member)), (a_now_knows, .inl (c 0, 4, .inl x_now_knows)), (a_sightings_minutes, .inl (c 0, 6, .inl x_sightings_minutes)), (a_trial, .inr (3, [.int x_trial_members, .int x_trial_leeches, .int x_trial_basin, .int x_trial_minute, .ref a_trial_knows, .ref a_trial_kind, .ref a_trial_on, .ref a_trial_has])), (a_trial_knows, .inl (c 0, 4, .inl x_trial_knows)), (a_trial_kind, .inl (c 0, 5, .inl x_trial_kind)), (a_trial_on, .inl (c 0, 5, .inl x_trial_on)), (a_trial_has, .inl (c 0, 5, .inl x_trial_has)), (a_facts, .inr (0, [.int x_facts_size, .ref a_facts_leans, .ref a_facts_all, .ref a_facts_lostWith])), (a_facts_lostWith, .inl (c 0, 12, .inl x_facts_lostWith)), (a_sightings_fact, .inl (c 0, 6, .inl x_sightings_fact)), (a_sightings_knew, .inl (c 0, 6, .inl x_sightings_knew))]) (wf := [(a_this, .inr (7, [.ref a_text, .ref a_facts, .ref a_told, .ref a_now, .ref a_trial, .ref a_past, .int x_undoable, .ref a_kept, .int x_keptBits, .ref a_sightings, .ref a_plan, .ref a_slates, .ref a_reckoned])), (a_now, .inr (3, [.int x_now_members, .int x_now_leeches, .int x_now_basin, .int x_now_minute, .ref a_now_knows, .ref a_now_kind, .ref a_now_on, .ref a_now_has])), (a_sightings, .inr (4, [.int x_sightings_size, .ref a_sightings_member, .ref a_sightings_minutes, .ref a_sightings_fact, .ref a_sightings_knew])), (a_sightings_member, .inl (c 0, 6, .inl x_sightings_member)), (a_now_knows, .inl (c 0, 4, .inl x_now_knows)), (a_sightings_minutes, .inl (c 0, 6, .inl x_sightings_minutes)), (a_trial, .inr (3, [.int x_trial_members, .int x_trial_leeches, .int x_trial_basin, .int x_trial_minute, .ref a_trial_knows, .ref a_trial_kind, .ref a_trial_on, .ref a_trial_has])), (a_trial_knows, .inl (c 0, 4, .inl x_trial_knows)), (a_trial_kind, .inl (c 0, 5, .inl x_trial_kind)), (a_trial_on, .inl (c 0, 5, .inl x_trial_on)), (a_trial_has, .inl (c 0, 5, .inl x_trial_has)), (a_facts, .inr (0, [.int x_facts_size, .ref a_facts_leans, .ref a_facts_all, .ref a_facts_lostWith])), (a_facts_lostWith, .inl (c 0, 12, .inl x_facts_lostWith)), (a_sightings_fact, .inl (c 0, 6, .inl x_sightings_fact)), (a_sightings_knew, .inl (c 0, 6, .inl x_sightings_knew))]) (x_goV (As := [.int v1]) (rest := []) ⟨hx, hb, hml, hown, hts⟩ (mX3_hasMember l D c a_now a_now_knows a_now_kind a_now_on a_now_has H.size x_now_leeches x_now_basin x_now_minute x_now_members v1 n _ hc1) (cwV 1 hts gX7_ask_X3_hasMember rfl rfl rfl (by decide +kernel) ⟨Nat.le_of_ble_eq_true rfl, Nat.le_of_ble_eq_true rfl⟩) xB_t hP hD hK [1] rfl (by decide) (fun _ _ _ => trivial) 1 3 rfl rfl rfl rfl hl.1 rfl (Nat.le_of_ble_eq_true rfl) dX7_ask_5) hP hD hS hA [1] [0, 2, 3, 4, 5, 6, 7, 8, 9, 10, 11, 12, 13, 14] [0, 14, 1, 2, 3, 4, 5, 6, 7, 8, 9, 10, 11, 12, 13] rfl rfl rfl ⟨by decide, by decide, by decide⟩ (fun H locs hP hD hS => ?_)
  refine lv_if_ne (tgt := 14) hx hb dX7_ask_8 (by decide) (fun c_2 => ?_) (fun c_2 => ?_)
  · have hr := x_iff hr c_2
    refine lv_iload_n hx hb dX7_ask_14 rfl (lv_at hl 2 rfl) ?_
    refine lv_iconst (v := 1) hx hb dX7_ask_15 (by decide) ?_
    refine lv_icmp_lt (tgt := 25) hx hb dX7_ask_16 (by decide) (fun c_3 => ?_) (fun c_3 => ?_)
    · have hr := x_ift hr c_3
      exact kX7_ask_25 E0 a_this a_text a_facts a_told a_now a_trial a_past a_kept a_sightings a_plan a_slates a_reckoned a_now_knows a_now_kind a_now_on a_now_has a_sightings_member a_sightings_minutes a_sightings_fact a_sightings_knew a_trial_knows a_trial_kind a_trial_on a_trial_has a_facts_leans a_facts_all a_facts_lostWith ev x_undoable x_keptBits x_now_leeches x_now_basin x_now_minute x_now_members x_sightings_size x_sightings_member x_now_knows x_sightings_minutes x_facts_lostWith x_sightings_fact x_sightings_knew x_facts_size n r_ret rm_trial_members rm_trial_leeches rm_trial_basin rm_trial_minute rm_trial_knows rm_trial_kind rm_trial_on rm_trial_has hV x_trial_members x_trial_leeches x_trial_basin x_trial_minute x_trial_knows x_trial_kind x_trial_on x_trial_has hr H locs ls hP hD hS (lv_sub hl [] rfl)
    · have hr := x_iff hr c_3
      refine lv_iload_n hx hb dX7_ask_19 rfl (lv_at hl 2 rfl) ?_
      refine lv_bipush (v := 6) hx hb dX7_ask_20 (by decide) ?_
      refine lv_icmp_le (tgt := 28) hx hb dX7_ask_22 (by decide) (fun c_4 => ?_) (fun c_4 => ?_)
      · have hr := x_ift hr c_4
        refine lv_aload_n hx hb dX7_ask_28 rfl (lv_at hl 0 rfl) ?_
        obtain ⟨⟨q5_0, q5_1, q5_2, q5_3, q5_4, q5_5, q5_6, q5_7, q5_8⟩, hc5, hr⟩ := x_bind hr
        try dsimp only at hr
        refine x_runi (wr := []) (wf := [(a_this, .inr (7, [.ref a_text, .ref a_facts, .ref a_told, .ref a_now, .ref a_trial, .ref a_past, .int x_undoable, .ref a_kept, .int x_keptBits, .ref a_sightings, .ref a_plan, .ref a_slates, .ref a_reckoned])), (a_now, .inr (3, [.int x_now_members, .int x_now_leeches, .int x_now_basin, .int x_now_minute, .ref a_now_knows, .ref a_now_kind, .ref a_now_on, .ref a_now_has])), (a_sightings, .inr (4, [.int x_sightings_size, .ref a_sightings_member, .ref a_sightings_minutes, .ref a_sightings_fact, .ref a_sightings_knew])), (a_sightings_member, .inl (c 0, 6, .inl x_sightings_member)), (a_now_knows, .inl (c 0, 4, .inl x_now_knows)), (a_sightings_minutes, .inl (c 0, 6, .inl x_sightings_minutes)), (a_trial, .inr (3, [.int q5_1, .int q5_2, .int q5_3, .int q5_4, .ref a_trial_knows, .ref a_trial_kind, .ref a_trial_on, .ref a_trial_has])), (a_trial_knows, .inl (c 0, 4, .inl q5_5)), (a_trial_kind, .inl (c 0, 5, .inl q5_6)), (a_trial_on, .inl (c 0, 5, .inl q5_7)), (a_trial_has, .inl (c 0, 5, .inl q5_8)), (a_facts, .inr (0, [.int x_facts_size, .ref a_facts_leans, .ref a_facts_all, .ref a_facts_lostWith])), (a_facts_lostWith, .inl (c 0, 12, .inl x_facts_lostWith)), (a_sightings_fact, .inl (c 0, 6, .inl x_sightings_fact)), (a_sightings_knew, .inl (c 0, 6, .inl x_sightings_knew))]) (x_goV (As := []) (rest := []) ⟨hx, hb, hml, hown, hts⟩ (mX7_kindsThatFit l D c a_this a_text a_facts a_told a_now a_trial a_past a_kept a_sightings a_plan a_slates a_reckoned a_sightings_member a_sightings_minutes a_sightings_fact a_sightings_knew a_now_knows a_now_kind a_now_on a_now_has a_trial_knows a_trial_kind a_trial_on a_trial_has a_facts_leans a_facts_all a_facts_lostWith ev H.size x_undoable x_keptBits x_now_leeches x_now_basin x_now_minute x_facts_size x_sightings_size x_sightings_member x_now_members x_now_knows x_sightings_minutes x_facts_lostWith x_sightings_fact x_sightings_knew x_trial_members x_trial_leeches x_trial_basin x_trial_minute x_trial_knows x_trial_kind x_trial_on x_trial_has n _ _ _ _ _ _ _ _ _ hc5) (cwV 0 hts gX7_ask_X7_kindsThatFit rfl rfl rfl (by decide +kernel) ⟨Nat.le_of_ble_eq_true rfl, Nat.le_of_ble_eq_true rfl⟩) xV_b hP hD hK [0, 2, 3, 1, 4, 5, 6, 7, 8, 9, 10, 11, 12, 13, 14] rfl (by decide) (fun U hU hW => xV_call hV hS (va_free hD hS hA [0, 2, 3, 1, 4, 5, 6, 7, 8, 9, 10, 11, 12, 13, 14] rfl) hU hW) 0 7 rfl rfl rfl rfl hl.1 rfl (Nat.le_of_ble_eq_true rfl) dX7_ask_29) hP hD hS hA [0, 2, 3, 1, 4, 5, 6, 7, 8, 9, 10, 11, 12, 13, 14] [] [0, 3, 1, 2, 4, 5, 6, 7, 8, 9, 10, 11, 12, 13, 14] rfl rfl rfl ⟨by decide, by decide, by decide⟩ (fun H locs hP hD hS => ?_)
        refine lv_istore_n (lv' := [(3, .int q5_0), (0, .ref a_this), (1, .int v1), (2, .int v2)]) hx hb dX7_ask_32 rfl hl (by decide) rfl (fun ls hl => ?_)
        refine lv_iconst (v := (-1)) hx hb dX7_ask_33 (by decide) ?_
        refine lv_istore (lv' := [(4, .int (-1)), (3, .int q5_0), (0, .ref a_this), (1, .int v1), (2, .int v2)]) hx hb dX7_ask_34 hl (by decide) rfl (fun ls hl => ?_)
        refine lv_iload_n hx hb dX7_ask_36 rfl (lv_at hl 1 rfl) ?_
        obtain ⟨q6_0, hc6, hr⟩ := x_bind hr
        refine x_runi (wr := [(a_this, .inr (7, [.ref a_text, .ref a_facts, .ref a_told, .ref a_now, .ref a_trial, .ref a_past, .int x_undoable, .ref a_kept, .int x_keptBits, .ref a_sightings, .ref a_plan, .ref a_slates, .ref a_reckoned])), (a_now, .inr (3, [.int x_now_members, .int x_now_leeches, .int x_now_basin, .int x_now_minute, .ref a_now_knows, .ref a_now_kind, .ref a_now_on, .ref a_now_has])), (a_sightings, .inr (4, [.int x_sightings_size, .ref a_sightings_member, .ref a_sightings_minutes, .ref a_sightings_fact, .ref a_sightings_knew])), (a_sightings_member, .inl (c 0, 6, .inl x_sightings_member)), (a_now_knows, .inl (c 0, 4, .inl x_now_knows)), (a_sightings_minutes, .inl (c 0, 6, .inl x_sightings_minutes)), (a_trial, .inr (3, [.int q5_1, .int q5_2, .int q5_3, .int q5_4, .ref a_trial_knows, .ref a_trial_kind, .ref a_trial_on, .ref a_trial_has])), (a_trial_knows, .inl (c 0, 4, .inl q5_5)), (a_trial_kind, .inl (c 0, 5, .inl q5_6)), (a_trial_on, .inl (c 0, 5, .inl q5_7)), (a_trial_has, .inl (c 0, 5, .inl q5_8)), (a_facts, .inr (0, [.int x_facts_size, .ref a_facts_leans, .ref a_facts_all, .ref a_facts_lostWith])), (a_facts_lostWith, .inl (c 0, 12, .inl x_facts_lostWith)), (a_sightings_fact, .inl (c 0, 6, .inl x_sightings_fact)), (a_sightings_knew, .inl (c 0, 6, .inl x_sightings_knew))]) (wf := [(a_this, .inr (7, [.ref a_text, .ref a_facts, .ref a_told, .ref a_now, .ref a_trial, .ref a_past, .int x_undoable, .ref a_kept, .int x_keptBits, .ref a_sightings, .ref a_plan, .ref a_slates, .ref a_reckoned])), (a_now, .inr (3, [.int x_now_members, .int x_now_leeches, .int x_now_basin, .int x_now_minute, .ref a_now_knows, .ref a_now_kind, .ref a_now_on, .ref a_now_has])), (a_sightings, .inr (4, [.int x_sightings_size, .ref a_sightings_member, .ref a_sightings_minutes, .ref a_sightings_fact, .ref a_sightings_knew])), (a_sightings_member, .inl (c 0, 6, .inl x_sightings_member)), (a_now_knows, .inl (c 0, 4, .inl x_now_knows)), (a_sightings_minutes, .inl (c 0, 6, .inl x_sightings_minutes)), (a_trial, .inr (3, [.int q5_1, .int q5_2, .int q5_3, .int q5_4, .ref a_trial_knows, .ref a_trial_kind, .ref a_trial_on, .ref a_trial_has])), (a_trial_knows, .inl (c 0, 4, .inl q5_5)), (a_trial_kind, .inl (c 0, 5, .inl q5_6)), (a_trial_on, .inl (c 0, 5, .inl q5_7)), (a_trial_has, .inl (c 0, 5, .inl q5_8)), (a_facts, .inr (0, [.int x_facts_size, .ref a_facts_leans, .ref a_facts_all, .ref a_facts_lostWith])), (a_facts_lostWith, .inl (c 0, 12, .inl x_facts_lostWith)), (a_sightings_fact, .inl (c 0, 6, .inl x_sightings_fact)), (a_sightings_knew, .inl (c 0, 6, .inl x_sightings_knew))]) (x_goS (As := [.int q5_0]) (rest := []) ⟨hx, hb, hml, hown, hts⟩ (mJ6_bitCount_0f7a4 l D c H.size q5_0 n _ hc6) (va_cwS 1 hts gX7_ask_J6_bitCount_0f7a4 rfl rfl rfl (by decide +kernel) ⟨Nat.le_of_ble_eq_true rfl, Nat.le_of_ble_eq_true rfl⟩) xB_t hP hD hK [] rfl (by decide) (fun _ _ _ => trivial) rfl hl.1 rfl (Nat.le_of_ble_eq_true rfl) dX7_ask_37) hP hD hS hA [] [0, 1, 2, 3, 4, 5, 6, 7, 8, 9, 10, 11, 12, 13, 14] [0, 1, 2, 3, 4, 5, 6, 7, 8, 9, 10, 11, 12, 13, 14] rfl rfl rfl ⟨by decide, by decide, by decide⟩ (fun H locs hP hD hS => ?_)
        refine lv_istore (lv' := [(5, .int q6_0), (4, .int (-1)), (3, .int q5_0), (0, .ref a_this), (1, .int v1), (2, .int v2)]) hx hb dX7_ask_40 hl (by decide) rfl (fun ls hl => ?_)
        refine lv_iconst (v := 0) hx hb dX7_ask_42 (by decide) ?_
        refine lv_istore (lv' := [(6, .int 0), (5, .int q6_0), (4, .int (-1)), (3, .int q5_0), (0, .ref a_this), (1, .int v1), (2, .int v2)]) hx hb dX7_ask_43 hl (by decide) rfl (fun ls hl => ?_)
        exact kX7_ask_45 E0 a_this a_text a_facts a_told a_now a_trial a_past a_kept a_sightings a_plan a_slates a_reckoned a_now_knows a_now_kind a_now_on a_now_has a_sightings_member a_sightings_minutes a_sightings_fact a_sightings_knew a_trial_knows a_trial_kind a_trial_on a_trial_has a_facts_leans a_facts_all a_facts_lostWith ev x_undoable x_keptBits x_now_leeches x_now_basin x_now_minute x_now_members x_sightings_size x_sightings_member x_now_knows x_sightings_minutes x_facts_lostWith x_sightings_fact x_sightings_knew x_facts_size n r_ret rm_trial_members rm_trial_leeches rm_trial_basin rm_trial_minute rm_trial_knows rm_trial_kind rm_trial_on rm_trial_has hV n q5_1 q5_2 q5_3 q5_4 q5_5 q5_6 q5_7 q5_8 v1 v2 q5_0 (-1) q6_0 0 hr H locs ls hP hD hS (lv_sub hl [4, 5, 6, 3, 2, 1, 0] rfl)
      · have hr := x_iff hr c_4
        exact kX7_ask_25 E0 a_this a_text a_facts a_told a_now a_trial a_past a_kept a_sightings a_plan a_slates a_reckoned a_now_knows a_now_kind a_now_on a_now_has a_sightings_member a_sightings_minutes a_sightings_fact a_sightings_knew a_trial_knows a_trial_kind a_trial_on a_trial_has a_facts_leans a_facts_all a_facts_lostWith ev x_undoable x_keptBits x_now_leeches x_now_basin x_now_minute x_now_members x_sightings_size x_sightings_member x_now_knows x_sightings_minutes x_facts_lostWith x_sightings_fact x_sightings_knew x_facts_size n r_ret rm_trial_members rm_trial_leeches rm_trial_basin rm_trial_minute rm_trial_knows rm_trial_kind rm_trial_on rm_trial_has hV x_trial_members x_trial_leeches x_trial_basin x_trial_minute x_trial_knows x_trial_kind x_trial_on x_trial_has hr H locs ls hP hD hS (lv_sub hl [] rfl)
  · have hr := x_ift hr c_2
    refine lv_bipush (v := (-2)) hx hb dX7_ask_11 (by decide) ?_
    have g0 := x_some hr
    have e0 := x_p1 g0
    have g1 := x_p2 g0
    have e1 := x_p1 g1
    have g2 := x_p2 g1
    have e2 := x_p1 g2
    have g3 := x_p2 g2
    have e3 := x_p1 g3
    have g4 := x_p2 g3
    have e4 := x_p1 g4
    have g5 := x_p2 g4
    have e5 := x_p1 g5
    have g6 := x_p2 g5
    have e6 := x_p1 g6
    have g7 := x_p2 g6
    have e7 := x_p1 g7
    have e8 := x_p2 g7
    subst e0
    subst e1
    subst e2
    subst e3
    subst e4
    subst e5
    subst e6
    subst e7
    subst e8
    exact x_reti hx hb hret hlocks hP hD hK hS dX7_ask_13
set_option maxHeartbeats 4000000 in
set_option maxRecDepth 100000 in
theorem mX7_ask (l : Launch) (D : va_G) (c : Nat → ClassId) (a_this : Nat) (a_text : Nat) (a_facts : Nat) (a_told : Nat) (a_now : Nat) (a_trial : Nat) (a_past : Nat) (a_kept : Nat) (a_sightings : Nat) (a_plan : Nat) (a_slates : Nat) (a_reckoned : Nat) (a_now_knows : Nat) (a_now_kind : Nat) (a_now_on : Nat) (a_now_has : Nat) (a_sightings_member : Nat) (a_sightings_minutes : Nat) (a_sightings_fact : Nat) (a_sightings_knew : Nat) (a_trial_knows : Nat) (a_trial_kind : Nat) (a_trial_on : Nat) (a_trial_has : Nat) (a_facts_leans : Nat) (a_facts_all : Nat) (a_facts_lostWith : Nat) (ev : Nat → Nat) (sz : Nat) (x_undoable : Int32) (x_keptBits : Int32) (x_now_leeches : Int32) (x_now_basin : Int32) (x_now_minute : Int32) (x_now_members : Int32) (x_sightings_size : Int32) (x_sightings_member : Nat → Int32) (x_now_knows : Nat → Int32) (x_sightings_minutes : Nat → Int32) (x_facts_lostWith : Nat → Int32) (x_sightings_fact : Nat → Int32) (x_sightings_knew : Nat → Int32) (x_facts_size : Int32) (x_trial_members : Int32) (x_trial_leeches : Int32) (x_trial_basin : Int32) (x_trial_minute : Int32) (x_trial_knows : Nat → Int32) (x_trial_kind : Nat → Int32) (x_trial_on : Nat → Int32) (x_trial_has : Nat → Int32) (v1 : Int32) (v2 : Int32) (n : Nat) (r_ret : Int32) (rm_trial_members : Int32) (rm_trial_leeches : Int32) (rm_trial_basin : Int32) (rm_trial_minute : Int32) (rm_trial_knows : Nat → Int32) (rm_trial_kind : Nat → Int32) (rm_trial_on : Nat → Int32) (rm_trial_has : Nat → Int32) (h : fX7_ask n x_now_members x_sightings_size x_sightings_member x_now_knows x_sightings_minutes x_facts_lostWith x_sightings_fact x_sightings_knew x_facts_size x_trial_members x_trial_leeches x_trial_basin x_trial_minute x_trial_knows x_trial_kind x_trial_on x_trial_has v1 v2 = some (r_ret, rm_trial_members, rm_trial_leeches, rm_trial_basin, rm_trial_minute, rm_trial_knows, rm_trial_kind, rm_trial_on, rm_trial_has)) : Met l yX7_ask wsX7_ask ({ frames := 7, cells := 0, slots := 0, locals := 163 } : Room) (xPc D (xT c) sz [.ref a_this, .int v1, .int v2] (wX7_ask c a_this a_text a_facts a_told a_now a_trial a_past a_kept a_sightings a_plan a_slates a_reckoned a_now_knows a_now_kind a_now_on a_now_has a_sightings_member a_sightings_minutes a_sightings_fact a_sightings_knew a_trial_knows a_trial_kind a_trial_on a_trial_has a_facts_leans a_facts_all a_facts_lostWith ev x_undoable x_keptBits x_now_leeches x_now_basin x_now_minute x_now_members x_sightings_size x_sightings_member x_now_knows x_sightings_minutes x_facts_lostWith x_sightings_fact x_sightings_knew x_facts_size x_trial_members x_trial_leeches x_trial_basin x_trial_minute x_trial_knows x_trial_kind x_trial_on x_trial_has) (xV ev (va_A (wX7_ask c a_this a_text a_facts a_told a_now a_trial a_past a_kept a_sightings a_plan a_slates a_reckoned a_now_knows a_now_kind a_now_on a_now_has a_sightings_member a_sightings_minutes a_sightings_fact a_sightings_knew a_trial_knows a_trial_kind a_trial_on a_trial_has a_facts_leans a_facts_all a_facts_lostWith ev x_undoable x_keptBits x_now_leeches x_now_basin x_now_minute x_now_members x_sightings_size x_sightings_member x_now_knows x_sightings_minutes x_facts_lostWith x_sightings_fact x_sightings_knew x_facts_size x_trial_members x_trial_leeches x_trial_basin x_trial_minute x_trial_knows x_trial_kind x_trial_on x_trial_has) sz))) (xQi D (xT c) (va_A (wX7_ask c a_this a_text a_facts a_told a_now a_trial a_past a_kept a_sightings a_plan a_slates a_reckoned a_now_knows a_now_kind a_now_on a_now_has a_sightings_member a_sightings_minutes a_sightings_fact a_sightings_knew a_trial_knows a_trial_kind a_trial_on a_trial_has a_facts_leans a_facts_all a_facts_lostWith ev x_undoable x_keptBits x_now_leeches x_now_basin x_now_minute x_now_members x_sightings_size x_sightings_member x_now_knows x_sightings_minutes x_facts_lostWith x_sightings_fact x_sightings_knew x_facts_size x_trial_members x_trial_leeches x_trial_basin x_trial_minute x_trial_knows x_trial_kind x_trial_on x_trial_has) sz) r_ret (wX7_ask c a_this a_text a_facts a_told a_now a_trial a_past a_kept a_sightings a_plan a_slates a_reckoned a_now_knows a_now_kind a_now_on a_now_has a_sightings_member a_sightings_minutes a_sightings_fact a_sightings_knew a_trial_knows a_trial_kind a_trial_on a_trial_has a_facts_leans a_facts_all a_facts_lostWith ev x_undoable x_keptBits x_now_leeches x_now_basin x_now_minute x_now_members x_sightings_size x_sightings_member x_now_knows x_sightings_minutes x_facts_lostWith x_sightings_fact x_sightings_knew x_facts_size rm_trial_members rm_trial_leeches rm_trial_basin rm_trial_minute rm_trial_knows rm_trial_kind rm_trial_on rm_trial_has)) 0 0 (va_A (wX7_ask c a_this a_text a_facts a_told a_now a_trial a_past a_kept a_sightings a_plan a_slates a_reckoned a_now_knows a_now_kind a_now_on a_now_has a_sightings_member a_sightings_minutes a_sightings_fact a_sightings_knew a_trial_knows a_trial_kind a_trial_on a_trial_has a_facts_leans a_facts_all a_facts_lostWith ev x_undoable x_keptBits x_now_leeches x_now_basin x_now_minute x_now_members x_sightings_size x_sightings_member x_now_knows x_sightings_minutes x_facts_lostWith x_sightings_fact x_sightings_knew x_facts_size x_trial_members x_trial_leeches x_trial_basin x_trial_minute x_trial_knows x_trial_kind x_trial_on x_trial_has) sz) := by
  refine Met.ofW (cc := cX7_ask) (maxL := 8) (ret := (some .int)) (by decide) rfl ?_
  intro p e s m args below meth cd s₁ B hml hv
  obtain ⟨rfl, hsz, hP, hK, hD0, hV⟩ := hv
  subst hsz
  have hl := lv_entry [.ref a_this, .int v1, .int v2] (n := 8) (Nat.le_of_ble_eq_true rfl)
  rw [lg_entry_eq]
  exact kX7_ask_0 (A := va_A (wX7_ask c a_this a_text a_facts a_told a_now a_trial a_past a_kept a_sightings a_plan a_slates a_reckoned a_now_knows a_now_kind a_now_on a_now_has a_sightings_member a_sightings_minutes a_sightings_fact a_sightings_knew a_trial_knows a_trial_kind a_trial_on a_trial_has a_facts_leans a_facts_all a_facts_lostWith ev x_undoable x_keptBits x_now_leeches x_now_basin x_now_minute x_now_members x_sightings_size x_sightings_member x_now_knows x_sightings_minutes x_facts_lostWith x_sightings_fact x_sightings_knew x_facts_size x_trial_members x_trial_leeches x_trial_basin x_trial_minute x_trial_knows x_trial_kind x_trial_on x_trial_has) s.heap.size) ⟨B.exec, B.bytes, hml, B.returns, findClass_of_methodNamed B.named, atoms_spec (ws := wsX7_ask) B.pre, B.notSynchronized, fun q h => Or.inr h, hK⟩ a_this a_text a_facts a_told a_now a_trial a_past a_kept a_sightings a_plan a_slates a_reckoned a_now_knows a_now_kind a_now_on a_now_has a_sightings_member a_sightings_minutes a_sightings_fact a_sightings_knew a_trial_knows a_trial_kind a_trial_on a_trial_has a_facts_leans a_facts_all a_facts_lostWith ev x_undoable x_keptBits x_now_leeches x_now_basin x_now_minute x_now_members x_sightings_size x_sightings_member x_now_knows x_sightings_minutes x_facts_lostWith x_sightings_fact x_sightings_knew x_facts_size n r_ret rm_trial_members rm_trial_leeches rm_trial_basin rm_trial_minute rm_trial_knows rm_trial_kind rm_trial_on rm_trial_has hV x_trial_members x_trial_leeches x_trial_basin x_trial_minute x_trial_knows x_trial_kind x_trial_on x_trial_has v1 v2 h s.heap [] _ hP hD0.self va_S.rf hl

abbrev wX7_isSlate (c : Nat → ClassId) : va_W := []
def GX7_isSlate (p : Program) (l : Launch) (e : Env) (s : State) (m : MethodId) (args : Array Value) (below : List Frame) (meth : Method) (cd : Code) (D : va_G) (c : Nat → ClassId) (A : Nat → Prop) (r_ret : Int32) (pc : Nat) (st : List Value) (loc : List (Nat × Value)) : Prop :=
  ∀ (H : Heap) (locs : List Loc) (ls : Array Slot), va_P D vwCl (wX7_isSlate c) H → va_D A (wX7_isSlate c) → va_S A s.heap H locs → lv_has ls 1 loc → W p l e ({ frames := 0, cells := 0, slots := 0, locals := 0 } : Room) s m args below meth cd H locs 0 0 (MQ below (xQi D (xT c) A r_ret (wX7_isSlate c)) args s 0 0 A) (F0 m pc ls st)
set_option maxHeartbeats 4000000 in
set_option maxRecDepth 100000 in
theorem kX7_isSlate_14 {p : Program} {l : Launch} {e : Env} {s : State} {m : MethodId} {args : Array Value} {below : List Frame} {meth : Method} {cd : Code} {D : va_G} {c : Nat → ClassId} {A : Nat → Prop} (E0 : xE p s m args meth cd D (xT c) A RX7 cX7_isSlate 1 (some .boolean) wsX7_isSlate) (n : Nat) (r_ret : Int32) (t0 : Int32) (hr : fX7_isSlate_14 n t0 = some (r_ret)) : GX7_isSlate p l e s m args below meth cd D c A r_ret 14 [.int t0] [] := by
  have E1 := E0
  obtain ⟨hx, hb, hml, hret, hown, hts, hlocks, hA, hK⟩ := E1
  intro H locs ls hP hD hS hl
  unfold fX7_isSlate_14 at hr
  obtain ⟨hz, hr⟩ := x_need hr
  have e0 := x_some hr
  subst e0
  exact x_retz hx hb hret (x_nz hz) hlocks hP hD hK hS dX7_isSlate_14
set_option maxHeartbeats 4000000 in
set_option maxRecDepth 100000 in
theorem kX7_isSlate_13 {p : Program} {l : Launch} {e : Env} {s : State} {m : MethodId} {args : Array Value} {below : List Frame} {meth : Method} {cd : Code} {D : va_G} {c : Nat → ClassId} {A : Nat → Prop} (E0 : xE p s m args meth cd D (xT c) A RX7 cX7_isSlate 1 (some .boolean) wsX7_isSlate) (n : Nat) (r_ret : Int32) (hr : fX7_isSlate_13 n = some (r_ret)) : GX7_isSlate p l e s m args below meth cd D c A r_ret 13 [] [] := by
  have E1 := E0
  obtain ⟨hx, hb, hml, hret, hown, hts, hlocks, hA, hK⟩ := E1
  intro H locs ls hP hD hS hl
  unfold fX7_isSlate_13 at hr
  refine lv_iconst (v := 0) hx hb dX7_isSlate_13 (by decide) ?_
  exact kX7_isSlate_14 E0 n r_ret 0 hr H locs ls hP hD hS (lv_sub hl [] rfl)
set_option maxHeartbeats 4000000 in
set_option maxRecDepth 100000 in
theorem kX7_isSlate_0 {p : Program} {l : Launch} {e : Env} {s : State} {m : MethodId} {args : Array Value} {below : List Frame} {meth : Method} {cd : Code} {D : va_G} {c : Nat → ClassId} {A : Nat → Prop} (E0 : xE p s m args meth cd D (xT c) A RX7 cX7_isSlate 1 (some .boolean) wsX7_isSlate) (n : Nat) (r_ret : Int32) (v0 : Int32) (hr : fX7_isSlate n v0 = some (r_ret)) : GX7_isSlate p l e s m args below meth cd D c A r_ret 0 [] [(0, .int v0)] := by
  have E1 := E0
  obtain ⟨hx, hb, hml, hret, hown, hts, hlocks, hA, hK⟩ := E1
  intro H locs ls hP hD hS hl
  unfold fX7_isSlate at hr
  refine lv_iload_n hx hb dX7_isSlate_0 rfl (lv_at hl 0 rfl) ?_
  refine lv_if_lt (tgt := 13) hx hb dX7_isSlate_1 (by decide) (fun c_1 => ?_) (fun c_1 => ?_)
  · have hr := x_ift hr c_1
    exact kX7_isSlate_13 E0 n r_ret hr H locs ls hP hD hS (lv_sub hl [] rfl)
  · have hr := x_iff hr c_1
    refine lv_iload_n hx hb dX7_isSlate_4 rfl (lv_at hl 0 rfl) ?_
    refine lv_iconst (v := 4) hx hb dX7_isSlate_5 (by decide) ?_
    refine lv_icmp_ge (tgt := 13) hx hb dX7_isSlate_6 (by decide) (fun c_2 => ?_) (fun c_2 => ?_)
    · have hr := x_ift hr c_2
      exact kX7_isSlate_13 E0 n r_ret hr H locs ls hP hD hS (lv_sub hl [] rfl)
    · have hr := x_iff hr c_2
      refine lv_iconst (v := 1) hx hb dX7_isSlate_9 (by decide) ?_
      refine lv_goto (tgt := 14) hx hb dX7_isSlate_10 (by decide) ?_
      exact kX7_isSlate_14 E0 n r_ret 1 hr H locs ls hP hD hS (lv_sub hl [] rfl)
set_option maxHeartbeats 4000000 in
set_option maxRecDepth 100000 in
theorem mX7_isSlate (l : Launch) (D : va_G) (c : Nat → ClassId) (sz : Nat) (v0 : Int32) (n : Nat) (r_ret : Int32) (h : fX7_isSlate n v0 = some (r_ret)) : Met l yX7_isSlate wsX7_isSlate ({ frames := 0, cells := 0, slots := 0, locals := 0 } : Room) (xPc D (xT c) sz [.int v0] (wX7_isSlate c) (fun _ => True)) (xQi D (xT c) (va_A (wX7_isSlate c) sz) r_ret (wX7_isSlate c)) 0 0 (va_A (wX7_isSlate c) sz) := by
  refine Met.ofW (cc := cX7_isSlate) (maxL := 1) (ret := (some .boolean)) (by decide) rfl ?_
  intro p e s m args below meth cd s₁ B hml hv
  obtain ⟨rfl, hsz, hP, hK, hD0, hV⟩ := hv
  subst hsz
  have hl := lv_entry [.int v0] (n := 1) (Nat.le_of_ble_eq_true rfl)
  rw [lg_entry_eq]
  exact kX7_isSlate_0 (A := va_A (wX7_isSlate c) s.heap.size) ⟨B.exec, B.bytes, hml, B.returns, findClass_of_methodNamed B.named, atoms_spec (ws := wsX7_isSlate) B.pre, B.notSynchronized, fun q h => Or.inr h, hK⟩ n r_ret v0 h s.heap [] _ hP hD0.self va_S.rf hl

abbrev wX7_isSort (c : Nat → ClassId) : va_W := []
def GX7_isSort (p : Program) (l : Launch) (e : Env) (s : State) (m : MethodId) (args : Array Value) (below : List Frame) (meth : Method) (cd : Code) (D : va_G) (c : Nat → ClassId) (A : Nat → Prop) (r_ret : Int32) (pc : Nat) (st : List Value) (loc : List (Nat × Value)) : Prop :=
  ∀ (H : Heap) (locs : List Loc) (ls : Array Slot), va_P D vwCl (wX7_isSort c) H → va_D A (wX7_isSort c) → va_S A s.heap H locs → lv_has ls 1 loc → W p l e ({ frames := 0, cells := 0, slots := 0, locals := 0 } : Room) s m args below meth cd H locs 0 0 (MQ below (xQi D (xT c) A r_ret (wX7_isSort c)) args s 0 0 A) (F0 m pc ls st)
set_option maxHeartbeats 4000000 in
set_option maxRecDepth 100000 in
theorem kX7_isSort_14 {p : Program} {l : Launch} {e : Env} {s : State} {m : MethodId} {args : Array Value} {below : List Frame} {meth : Method} {cd : Code} {D : va_G} {c : Nat → ClassId} {A : Nat → Prop} (E0 : xE p s m args meth cd D (xT c) A RX7 cX7_isSort 1 (some .boolean) wsX7_isSort) (n : Nat) (r_ret : Int32) (t0 : Int32) (hr : fX7_isSort_14 n t0 = some (r_ret)) : GX7_isSort p l e s m args below meth cd D c A r_ret 14 [.int t0] [] := by
  have E1 := E0
  obtain ⟨hx, hb, hml, hret, hown, hts, hlocks, hA, hK⟩ := E1
  intro H locs ls hP hD hS hl
  unfold fX7_isSort_14 at hr
  obtain ⟨hz, hr⟩ := x_need hr
  have e0 := x_some hr
  subst e0
  exact x_retz hx hb hret (x_nz hz) hlocks hP hD hK hS dX7_isSort_14
set_option maxHeartbeats 4000000 in
set_option maxRecDepth 100000 in
theorem kX7_isSort_13 {p : Program} {l : Launch} {e : Env} {s : State} {m : MethodId} {args : Array Value} {below : List Frame} {meth : Method} {cd : Code} {D : va_G} {c : Nat → ClassId} {A : Nat → Prop} (E0 : xE p s m args meth cd D (xT c) A RX7 cX7_isSort 1 (some .boolean) wsX7_isSort) (n : Nat) (r_ret : Int32) (hr : fX7_isSort_13 n = some (r_ret)) : GX7_isSort p l e s m args below meth cd D c A r_ret 13 [] [] := by
  have E1 := E0
  obtain ⟨hx, hb, hml, hret, hown, hts, hlocks, hA, hK⟩ := E1
  intro H locs ls hP hD hS hl
  unfold fX7_isSort_13 at hr
  refine lv_iconst (v := 0) hx hb dX7_isSort_13 (by decide) ?_
  exact kX7_isSort_14 E0 n r_ret 0 hr H locs ls hP hD hS (lv_sub hl [] rfl)
set_option maxHeartbeats 4000000 in
set_option maxRecDepth 100000 in
theorem kX7_isSort_0 {p : Program} {l : Launch} {e : Env} {s : State} {m : MethodId} {args : Array Value} {below : List Frame} {meth : Method} {cd : Code} {D : va_G} {c : Nat → ClassId} {A : Nat → Prop} (E0 : xE p s m args meth cd D (xT c) A RX7 cX7_isSort 1 (some .boolean) wsX7_isSort) (n : Nat) (r_ret : Int32) (v0 : Int32) (hr : fX7_isSort n v0 = some (r_ret)) : GX7_isSort p l e s m args below meth cd D c A r_ret 0 [] [(0, .int v0)] := by
  have E1 := E0
  obtain ⟨hx, hb, hml, hret, hown, hts, hlocks, hA, hK⟩ := E1
  intro H locs ls hP hD hS hl
  unfold fX7_isSort at hr
  refine lv_iload_n hx hb dX7_isSort_0 rfl (lv_at hl 0 rfl) ?_
  refine lv_if_lt (tgt := 13) hx hb dX7_isSort_1 (by decide) (fun c_1 => ?_) (fun c_1 => ?_)
  · have hr := x_ift hr c_1
    exact kX7_isSort_13 E0 n r_ret hr H locs ls hP hD hS (lv_sub hl [] rfl)
  · have hr := x_iff hr c_1
    refine lv_iload_n hx hb dX7_isSort_4 rfl (lv_at hl 0 rfl) ?_
    refine lv_iconst (v := 3) hx hb dX7_isSort_5 (by decide) ?_
    refine lv_icmp_ge (tgt := 13) hx hb dX7_isSort_6 (by decide) (fun c_2 => ?_) (fun c_2 => ?_)
    · have hr := x_ift hr c_2
      exact kX7_isSort_13 E0 n r_ret hr H locs ls hP hD hS (lv_sub hl [] rfl)
    · have hr := x_iff hr c_2
      refine lv_iconst (v := 1) hx hb dX7_isSort_9 (by decide) ?_
      refine lv_goto (tgt := 14) hx hb dX7_isSort_10 (by decide) ?_
      exact kX7_isSort_14 E0 n r_ret 1 hr H locs ls hP hD hS (lv_sub hl [] rfl)
set_option maxHeartbeats 4000000 in
set_option maxRecDepth 100000 in
theorem mX7_isSort (l : Launch) (D : va_G) (c : Nat → ClassId) (sz : Nat) (v0 : Int32) (n : Nat) (r_ret : Int32) (h : fX7_isSort n v0 = some (r_ret)) : Met l yX7_isSort wsX7_isSort ({ frames := 0, cells := 0, slots := 0, locals := 0 } : Room) (xPc D (xT c) sz [.int v0] (wX7_isSort c) (fun _ => True)) (xQi D (xT c) (va_A (wX7_isSort c) sz) r_ret (wX7_isSort c)) 0 0 (va_A (wX7_isSort c) sz) := by
  refine Met.ofW (cc := cX7_isSort) (maxL := 1) (ret := (some .boolean)) (by decide) rfl ?_
  intro p e s m args below meth cd s₁ B hml hv
  obtain ⟨rfl, hsz, hP, hK, hD0, hV⟩ := hv
  subst hsz
  have hl := lv_entry [.int v0] (n := 1) (Nat.le_of_ble_eq_true rfl)
  rw [lg_entry_eq]
  exact kX7_isSort_0 (A := va_A (wX7_isSort c) s.heap.size) ⟨B.exec, B.bytes, hml, B.returns, findClass_of_methodNamed B.named, atoms_spec (ws := wsX7_isSort) B.pre, B.notSynchronized, fun q h => Or.inr h, hK⟩ n r_ret v0 h s.heap [] _ hP hD0.self va_S.rf hl

