abbrev wX8_as (c : Nat → ClassId) (a_this : Nat) (a_row : Nat) (a_isKept : Nat) (a_text : Nat) (a_seenMember : Nat) (a_seenMinutes : Nat) (a_seenFact : Nat) (a_seenKnew : Nat) (a_sizes : Nat) (a_sorts : Nat) (a_places : Nat) (a_belows : Nat) (a_clubWord : Nat) (a_factWord : Nat) (a_memberWord : Nat) (a_commonWord : Nat) (a_stripedWord : Nat) (a_greedyWord : Nat) (a_bishopWord : Nat) (a_muffWord : Nat) (a_onWord : Nat) (a_line : Nat) (a_bestLine : Nat) (a_moved : Nat) (a_movedBelow : Nat) (x_undos : Int32) (x_length : Int32) (x_seenMany : Int32) (x_first : Int32) (x_behind : Int32) (x_readFacts : Int32) (x_readMembers : Int32) (x_readLeeches : Int32) (x_clauses : Int32) (x_doing : Int32) (x_hasNow : Int32) (x_knowsNow : Int32) (x_isOff : Int32) (x_row : Nat → Int32) : va_W := [(a_this, .inr (8, [.ref a_row, .int x_undos, .ref a_isKept, .ref a_text, .int x_length, .int x_seenMany, .ref a_seenMember, .ref a_seenMinutes, .ref a_seenFact, .ref a_seenKnew, .ref a_sizes, .ref a_sorts, .ref a_places, .ref a_belows, .int x_first, .int x_behind, .int x_readFacts, .int x_readMembers, .int x_readLeeches, .int x_clauses, .int x_doing, .ref a_clubWord, .ref a_factWord, .ref a_memberWord, .ref a_commonWord, .ref a_stripedWord, .ref a_greedyWord, .ref a_bishopWord, .ref a_muffWord, .ref a_onWord, .int x_hasNow, .int x_knowsNow, .int x_isOff, .ref a_line, .ref a_bestLine, .ref a_moved, .ref a_movedBelow])), (a_row, .inl (c 0, 624, .inl x_row))]
def GX8_as (p : Program) (l : Launch) (e : Env) (s : State) (m : MethodId) (args : Array Value) (below : List Frame) (meth : Method) (cd : Code) (D : va_G) (c : Nat → ClassId) (A : Nat → Prop) (a_this : Nat) (a_row : Nat) (a_isKept : Nat) (a_text : Nat) (a_seenMember : Nat) (a_seenMinutes : Nat) (a_seenFact : Nat) (a_seenKnew : Nat) (a_sizes : Nat) (a_sorts : Nat) (a_places : Nat) (a_belows : Nat) (a_clubWord : Nat) (a_factWord : Nat) (a_memberWord : Nat) (a_commonWord : Nat) (a_stripedWord : Nat) (a_greedyWord : Nat) (a_bishopWord : Nat) (a_muffWord : Nat) (a_onWord : Nat) (a_line : Nat) (a_bestLine : Nat) (a_moved : Nat) (a_movedBelow : Nat) (x_undos : Int32) (x_length : Int32) (x_seenMany : Int32) (x_first : Int32) (x_behind : Int32) (x_readFacts : Int32) (x_readMembers : Int32) (x_readLeeches : Int32) (x_clauses : Int32) (x_doing : Int32) (x_hasNow : Int32) (x_knowsNow : Int32) (x_isOff : Int32) (x_row : Nat → Int32) (r_ret : Int32) (pc : Nat) (st : List Value) (loc : List (Nat × Value)) : Prop :=
  ∀ (H : Heap) (locs : List Loc) (ls : Array Slot), va_P D vwCl (wX8_as c a_this a_row a_isKept a_text a_seenMember a_seenMinutes a_seenFact a_seenKnew a_sizes a_sorts a_places a_belows a_clubWord a_factWord a_memberWord a_commonWord a_stripedWord a_greedyWord a_bishopWord a_muffWord a_onWord a_line a_bestLine a_moved a_movedBelow x_undos x_length x_seenMany x_first x_behind x_readFacts x_readMembers x_readLeeches x_clauses x_doing x_hasNow x_knowsNow x_isOff x_row) H → va_D A (wX8_as c a_this a_row a_isKept a_text a_seenMember a_seenMinutes a_seenFact a_seenKnew a_sizes a_sorts a_places a_belows a_clubWord a_factWord a_memberWord a_commonWord a_stripedWord a_greedyWord a_bishopWord a_muffWord a_onWord a_line a_bestLine a_moved a_movedBelow x_undos x_length x_seenMany x_first x_behind x_readFacts x_readMembers x_readLeeches x_clauses x_doing x_hasNow x_knowsNow x_isOff x_row) → va_S A s.heap H locs → lv_has ls 5 loc → W p l e ({ frames := 2, cells := 0, slots := 0, locals := 46 } : Room) s m args below meth cd H locs 0 0 (MQ below (xQi D (xT c) A r_ret (wX8_as c a_this a_row a_isKept a_text a_seenMember a_seenMinutes a_seenFact a_seenKnew a_sizes a_sorts a_places a_belows a_clubWord a_factWord a_memberWord a_commonWord a_stripedWord a_greedyWord a_bishopWord a_muffWord a_onWord a_line a_bestLine a_moved a_movedBelow x_undos x_length x_seenMany x_first x_behind x_readFacts x_readMembers x_readLeeches x_clauses x_doing x_hasNow x_knowsNow x_isOff x_row)) args s 0 0 A) (F0 m pc ls st)
theorem lkX8_as_J212 : Cond.constantLong RX8 212 5 ∈ wsX8_as := by decide +kernel
theorem lkX8_as_f7 : Cond.fieldLink RX8 7 "LeechClubModel" "row" "[I" ∈ wsX8_as := by decide +kernel
theorem inX8_as_X8 : ∀ w ∈ wsX80, w ∈ wsX8_as := by decide +kernel
set_option maxHeartbeats 4000000 in
set_option maxRecDepth 100000 in
theorem kX8_as_92 {p : Program} {l : Launch} {e : Env} {s : State} {m : MethodId} {args : Array Value} {below : List Frame} {meth : Method} {cd : Code} {D : va_G} {c : Nat → ClassId} {A : Nat → Prop} (E0 : xE p s m args meth cd D (xT c) A RX8 cX8_as 5 (some .int) wsX8_as) (a_this : Nat) (a_row : Nat) (a_isKept : Nat) (a_text : Nat) (a_seenMember : Nat) (a_seenMinutes : Nat) (a_seenFact : Nat) (a_seenKnew : Nat) (a_sizes : Nat) (a_sorts : Nat) (a_places : Nat) (a_belows : Nat) (a_clubWord : Nat) (a_factWord : Nat) (a_memberWord : Nat) (a_commonWord : Nat) (a_stripedWord : Nat) (a_greedyWord : Nat) (a_bishopWord : Nat) (a_muffWord : Nat) (a_onWord : Nat) (a_line : Nat) (a_bestLine : Nat) (a_moved : Nat) (a_movedBelow : Nat) (x_undos : Int32) (x_length : Int32) (x_seenMany : Int32) (x_first : Int32) (x_behind : Int32) (x_readFacts : Int32) (x_readMembers : Int32) (x_readLeeches : Int32) (x_clauses : Int32) (x_doing : Int32) (x_hasNow : Int32) (x_knowsNow : Int32) (x_isOff : Int32) (x_row : Nat → Int32) (n : Nat) (r_ret : Int32) (t0 : Int32) (hr : fX8_as_92 n x_row t0 = some (r_ret)) : GX8_as p l e s m args below meth cd D c A a_this a_row a_isKept a_text a_seenMember a_seenMinutes a_seenFact a_seenKnew a_sizes a_sorts a_places a_belows a_clubWord a_factWord a_memberWord a_commonWord a_stripedWord a_greedyWord a_bishopWord a_muffWord a_onWord a_line a_bestLine a_moved a_movedBelow x_undos x_length x_seenMany x_first x_behind x_readFacts x_readMembers x_readLeeches x_clauses x_doing x_hasNow x_knowsNow x_isOff x_row r_ret 92 [.int t0] [] := by
  have E1 := E0
  obtain ⟨hx, hb, hml, hret, hown, hts, hlocks, hA, hK⟩ := E1
  intro H locs ls hP hD hS hl
  unfold fX8_as_92 at hr
  have e0 := x_some hr
  subst e0
  exact x_reti hx hb hret hlocks hP hD hK hS dX8_as_92
set_option maxHeartbeats 4000000 in
set_option maxRecDepth 100000 in
theorem kX8_as_76 {p : Program} {l : Launch} {e : Env} {s : State} {m : MethodId} {args : Array Value} {below : List Frame} {meth : Method} {cd : Code} {D : va_G} {c : Nat → ClassId} {A : Nat → Prop} (E0 : xE p s m args meth cd D (xT c) A RX8 cX8_as 5 (some .int) wsX8_as) (a_this : Nat) (a_row : Nat) (a_isKept : Nat) (a_text : Nat) (a_seenMember : Nat) (a_seenMinutes : Nat) (a_seenFact : Nat) (a_seenKnew : Nat) (a_sizes : Nat) (a_sorts : Nat) (a_places : Nat) (a_belows : Nat) (a_clubWord : Nat) (a_factWord : Nat) (a_memberWord : Nat) (a_commonWord : Nat) (a_stripedWord : Nat) (a_greedyWord : Nat) (a_bishopWord : Nat) (a_muffWord : Nat) (a_onWord : Nat) (a_line : Nat) (a_bestLine : Nat) (a_moved : Nat) (a_movedBelow : Nat) (x_undos : Int32) (x_length : Int32) (x_seenMany : Int32) (x_first : Int32) (x_behind : Int32) (x_readFacts : Int32) (x_readMembers : Int32) (x_readLeeches : Int32) (x_clauses : Int32) (x_doing : Int32) (x_hasNow : Int32) (x_knowsNow : Int32) (x_isOff : Int32) (x_row : Nat → Int32) (n : Nat) (r_ret : Int32) (v3 : Int32) (t0 : Int32) (hr : fX8_as_76 n x_row v3 t0 = some (r_ret)) : GX8_as p l e s m args below meth cd D c A a_this a_row a_isKept a_text a_seenMember a_seenMinutes a_seenFact a_seenKnew a_sizes a_sorts a_places a_belows a_clubWord a_factWord a_memberWord a_commonWord a_stripedWord a_greedyWord a_bishopWord a_muffWord a_onWord a_line a_bestLine a_moved a_movedBelow x_undos x_length x_seenMany x_first x_behind x_readFacts x_readMembers x_readLeeches x_clauses x_doing x_hasNow x_knowsNow x_isOff x_row r_ret 76 [.int t0] [(3, .int v3)] := by
  have E1 := E0
  obtain ⟨hx, hb, hml, hret, hown, hts, hlocks, hA, hK⟩ := E1
  intro H locs ls hP hD hS hl
  unfold fX8_as_76 at hr
  refine lv_istore (lv' := [(4, .int t0), (3, .int v3)]) hx hb dX8_as_76 hl (by decide) rfl (fun ls hl => ?_)
  refine lv_iload hx hb dX8_as_78 (lv_at hl 0 rfl) ?_
  refine lv_if_eq (tgt := 90) hx hb dX8_as_80 (by decide) (fun c_1 => ?_) (fun c_1 => ?_)
  · have hr := x_ift hr c_1
    refine lv_bipush (v := (-4)) hx hb dX8_as_90 (by decide) ?_
    exact kX8_as_92 E0 a_this a_row a_isKept a_text a_seenMember a_seenMinutes a_seenFact a_seenKnew a_sizes a_sorts a_places a_belows a_clubWord a_factWord a_memberWord a_commonWord a_stripedWord a_greedyWord a_bishopWord a_muffWord a_onWord a_line a_bestLine a_moved a_movedBelow x_undos x_length x_seenMany x_first x_behind x_readFacts x_readMembers x_readLeeches x_clauses x_doing x_hasNow x_knowsNow x_isOff x_row n r_ret (-4) hr H locs ls hP hD hS (lv_sub hl [] rfl)
  · have hr := x_iff hr c_1
    refine lv_iload_n hx hb dX8_as_83 rfl (lv_at hl 1 rfl) ?_
    obtain ⟨q2_0, hc2, hr⟩ := x_bind hr
    refine x_runi (wr := [(a_this, .inr (8, [.ref a_row, .int x_undos, .ref a_isKept, .ref a_text, .int x_length, .int x_seenMany, .ref a_seenMember, .ref a_seenMinutes, .ref a_seenFact, .ref a_seenKnew, .ref a_sizes, .ref a_sorts, .ref a_places, .ref a_belows, .int x_first, .int x_behind, .int x_readFacts, .int x_readMembers, .int x_readLeeches, .int x_clauses, .int x_doing, .ref a_clubWord, .ref a_factWord, .ref a_memberWord, .ref a_commonWord, .ref a_stripedWord, .ref a_greedyWord, .ref a_bishopWord, .ref a_muffWord, .ref a_onWord, .int x_hasNow, .int x_knowsNow, .int x_isOff, .ref a_line, .ref a_bestLine, .ref a_moved, .ref a_movedBelow])), (a_row, .inl (c 0, 624, .inl x_row))]) (wf := [(a_this, .inr (8, [.ref a_row, .int x_undos, .ref a_isKept, .ref a_text, .int x_length, .int x_seenMany, .ref a_seenMember, .ref a_seenMinutes, .ref a_seenFact, .ref a_seenKnew, .ref a_sizes, .ref a_sorts, .ref a_places, .ref a_belows, .int x_first, .int x_behind, .int x_readFacts, .int x_readMembers, .int x_readLeeches, .int x_clauses, .int x_doing, .ref a_clubWord, .ref a_factWord, .ref a_memberWord, .ref a_commonWord, .ref a_stripedWord, .ref a_greedyWord, .ref a_bishopWord, .ref a_muffWord, .ref a_onWord, .int x_hasNow, .int x_knowsNow, .int x_isOff, .ref a_line, .ref a_bestLine, .ref a_moved, .ref a_movedBelow])), (a_row, .inl (c 0, 624, .inl x_row))]) (x_goS (As := [.int v3]) (rest := []) ⟨hx, hb, hml, hown, hts⟩ (mX8_room l D c H.size v3 n _ hc2) (va_cwS 1 hts gX8_as_X8_room rfl rfl rfl (by decide +kernel) ⟨Nat.le_of_ble_eq_true rfl, Nat.le_of_ble_eq_true rfl⟩) xB_t hP hD hK [] rfl (by decide) (fun _ _ _ => trivial) rfl hl.1 rfl (Nat.le_of_ble_eq_true rfl) dX8_as_84) hP hD hS hA [] [0, 1] [0, 1] rfl rfl rfl ⟨by decide, by decide, by decide⟩ (fun H locs hP hD hS => ?_)
    refine lv_goto (tgt := 92) hx hb dX8_as_87 (by decide) ?_
    exact kX8_as_92 E0 a_this a_row a_isKept a_text a_seenMember a_seenMinutes a_seenFact a_seenKnew a_sizes a_sorts a_places a_belows a_clubWord a_factWord a_memberWord a_commonWord a_stripedWord a_greedyWord a_bishopWord a_muffWord a_onWord a_line a_bestLine a_moved a_movedBelow x_undos x_length x_seenMany x_first x_behind x_readFacts x_readMembers x_readLeeches x_clauses x_doing x_hasNow x_knowsNow x_isOff x_row n r_ret q2_0 hr H locs ls hP hD hS (lv_sub hl [] rfl)
set_option maxHeartbeats 4000000 in
set_option maxRecDepth 100000 in
theorem kX8_as_71 {p : Program} {l : Launch} {e : Env} {s : State} {m : MethodId} {args : Array Value} {below : List Frame} {meth : Method} {cd : Code} {D : va_G} {c : Nat → ClassId} {A : Nat → Prop} (E0 : xE p s m args meth cd D (xT c) A RX8 cX8_as 5 (some .int) wsX8_as) (a_this : Nat) (a_row : Nat) (a_isKept : Nat) (a_text : Nat) (a_seenMember : Nat) (a_seenMinutes : Nat) (a_seenFact : Nat) (a_seenKnew : Nat) (a_sizes : Nat) (a_sorts : Nat) (a_places : Nat) (a_belows : Nat) (a_clubWord : Nat) (a_factWord : Nat) (a_memberWord : Nat) (a_commonWord : Nat) (a_stripedWord : Nat) (a_greedyWord : Nat) (a_bishopWord : Nat) (a_muffWord : Nat) (a_onWord : Nat) (a_line : Nat) (a_bestLine : Nat) (a_moved : Nat) (a_movedBelow : Nat) (x_undos : Int32) (x_length : Int32) (x_seenMany : Int32) (x_first : Int32) (x_behind : Int32) (x_readFacts : Int32) (x_readMembers : Int32) (x_readLeeches : Int32) (x_clauses : Int32) (x_doing : Int32) (x_hasNow : Int32) (x_knowsNow : Int32) (x_isOff : Int32) (x_row : Nat → Int32) (n : Nat) (r_ret : Int32) (v3 : Int32) (hr : fX8_as_71 n x_row v3 = some (r_ret)) : GX8_as p l e s m args below meth cd D c A a_this a_row a_isKept a_text a_seenMember a_seenMinutes a_seenFact a_seenKnew a_sizes a_sorts a_places a_belows a_clubWord a_factWord a_memberWord a_commonWord a_stripedWord a_greedyWord a_bishopWord a_muffWord a_onWord a_line a_bestLine a_moved a_movedBelow x_undos x_length x_seenMany x_first x_behind x_readFacts x_readMembers x_readLeeches x_clauses x_doing x_hasNow x_knowsNow x_isOff x_row r_ret 71 [] [(3, .int v3)] := by
  have E1 := E0
  obtain ⟨hx, hb, hml, hret, hown, hts, hlocks, hA, hK⟩ := E1
  intro H locs ls hP hD hS hl
  unfold fX8_as_71 at hr
  refine lv_iconst (v := 1) hx hb dX8_as_71 (by decide) ?_
  refine lv_goto (tgt := 76) hx hb dX8_as_72 (by decide) ?_
  exact kX8_as_76 E0 a_this a_row a_isKept a_text a_seenMember a_seenMinutes a_seenFact a_seenKnew a_sizes a_sorts a_places a_belows a_clubWord a_factWord a_memberWord a_commonWord a_stripedWord a_greedyWord a_bishopWord a_muffWord a_onWord a_line a_bestLine a_moved a_movedBelow x_undos x_length x_seenMany x_first x_behind x_readFacts x_readMembers x_readLeeches x_clauses x_doing x_hasNow x_knowsNow x_isOff x_row n r_ret v3 1 hr H locs ls hP hD hS (lv_sub hl [0] rfl)
set_option maxHeartbeats 4000000 in
set_option maxRecDepth 100000 in
theorem kX8_as_75 {p : Program} {l : Launch} {e : Env} {s : State} {m : MethodId} {args : Array Value} {below : List Frame} {meth : Method} {cd : Code} {D : va_G} {c : Nat → ClassId} {A : Nat → Prop} (E0 : xE p s m args meth cd D (xT c) A RX8 cX8_as 5 (some .int) wsX8_as) (a_this : Nat) (a_row : Nat) (a_isKept : Nat) (a_text : Nat) (a_seenMember : Nat) (a_seenMinutes : Nat) (a_seenFact : Nat) (a_seenKnew : Nat) (a_sizes : Nat) (a_sorts : Nat) (a_places : Nat) (a_belows : Nat) (a_clubWord : Nat) (a_factWord : Nat) (a_memberWord : Nat) (a_commonWord : Nat) (a_stripedWord : Nat) (a_greedyWord : Nat) (a_bishopWord : Nat) (a_muffWord : Nat) (a_onWord : Nat) (a_line : Nat) (a_bestLine : Nat) (a_moved : Nat) (a_movedBelow : Nat) (x_undos : Int32) (x_length : Int32) (x_seenMany : Int32) (x_first : Int32) (x_behind : Int32) (x_readFacts : Int32) (x_readMembers : Int32) (x_readLeeches : Int32) (x_clauses : Int32) (x_doing : Int32) (x_hasNow : Int32) (x_knowsNow : Int32) (x_isOff : Int32) (x_row : Nat → Int32) (n : Nat) (r_ret : Int32) (v3 : Int32) (hr : fX8_as_75 n x_row v3 = some (r_ret)) : GX8_as p l e s m args below meth cd D c A a_this a_row a_isKept a_text a_seenMember a_seenMinutes a_seenFact a_seenKnew a_sizes a_sorts a_places a_belows a_clubWord a_factWord a_memberWord a_commonWord a_stripedWord a_greedyWord a_bishopWord a_muffWord a_onWord a_line a_bestLine a_moved a_movedBelow x_undos x_length x_seenMany x_first x_behind x_readFacts x_readMembers x_readLeeches x_clauses x_doing x_hasNow x_knowsNow x_isOff x_row r_ret 75 [] [(3, .int v3)] := by
  have E1 := E0
  obtain ⟨hx, hb, hml, hret, hown, hts, hlocks, hA, hK⟩ := E1
  intro H locs ls hP hD hS hl
  unfold fX8_as_75 at hr
  refine lv_iconst (v := 0) hx hb dX8_as_75 (by decide) ?_
  exact kX8_as_76 E0 a_this a_row a_isKept a_text a_seenMember a_seenMinutes a_seenFact a_seenKnew a_sizes a_sorts a_places a_belows a_clubWord a_factWord a_memberWord a_commonWord a_stripedWord a_greedyWord a_bishopWord a_muffWord a_onWord a_line a_bestLine a_moved a_movedBelow x_undos x_length x_seenMany x_first x_behind x_readFacts x_readMembers x_readLeeches x_clauses x_doing x_hasNow x_knowsNow x_isOff x_row n r_ret v3 0 hr H locs ls hP hD hS (lv_sub hl [0] rfl)
set_option maxHeartbeats 4000000 in
set_option maxRecDepth 100000 in
theorem kX8_as_61 {p : Program} {l : Launch} {e : Env} {s : State} {m : MethodId} {args : Array Value} {below : List Frame} {meth : Method} {cd : Code} {D : va_G} {c : Nat → ClassId} {A : Nat → Prop} (E0 : xE p s m args meth cd D (xT c) A RX8 cX8_as 5 (some .int) wsX8_as) (a_this : Nat) (a_row : Nat) (a_isKept : Nat) (a_text : Nat) (a_seenMember : Nat) (a_seenMinutes : Nat) (a_seenFact : Nat) (a_seenKnew : Nat) (a_sizes : Nat) (a_sorts : Nat) (a_places : Nat) (a_belows : Nat) (a_clubWord : Nat) (a_factWord : Nat) (a_memberWord : Nat) (a_commonWord : Nat) (a_stripedWord : Nat) (a_greedyWord : Nat) (a_bishopWord : Nat) (a_muffWord : Nat) (a_onWord : Nat) (a_line : Nat) (a_bestLine : Nat) (a_moved : Nat) (a_movedBelow : Nat) (x_undos : Int32) (x_length : Int32) (x_seenMany : Int32) (x_first : Int32) (x_behind : Int32) (x_readFacts : Int32) (x_readMembers : Int32) (x_readLeeches : Int32) (x_clauses : Int32) (x_doing : Int32) (x_hasNow : Int32) (x_knowsNow : Int32) (x_isOff : Int32) (x_row : Nat → Int32) (n : Nat) (r_ret : Int32) (v2 : Int32) (v3 : Int32) (hr : fX8_as_61 n x_row v2 v3 = some (r_ret)) : GX8_as p l e s m args below meth cd D c A a_this a_row a_isKept a_text a_seenMember a_seenMinutes a_seenFact a_seenKnew a_sizes a_sorts a_places a_belows a_clubWord a_factWord a_memberWord a_commonWord a_stripedWord a_greedyWord a_bishopWord a_muffWord a_onWord a_line a_bestLine a_moved a_movedBelow x_undos x_length x_seenMany x_first x_behind x_readFacts x_readMembers x_readLeeches x_clauses x_doing x_hasNow x_knowsNow x_isOff x_row r_ret 61 [] [(2, .int v2), (3, .int v3)] := by
  have E1 := E0
  obtain ⟨hx, hb, hml, hret, hown, hts, hlocks, hA, hK⟩ := E1
  intro H locs ls hP hD hS hl
  unfold fX8_as_61 at hr
  refine lv_iload_n hx hb dX8_as_61 rfl (lv_at hl 0 rfl) ?_
  refine lv_iconst (v := 4) hx hb dX8_as_62 (by decide) ?_
  refine lv_icmp_ne (tgt := 75) hx hb dX8_as_63 (by decide) (fun c_1 => ?_) (fun c_1 => ?_)
  · have hr := x_iff hr c_1
    exact kX8_as_75 E0 a_this a_row a_isKept a_text a_seenMember a_seenMinutes a_seenFact a_seenKnew a_sizes a_sorts a_places a_belows a_clubWord a_factWord a_memberWord a_commonWord a_stripedWord a_greedyWord a_bishopWord a_muffWord a_onWord a_line a_bestLine a_moved a_movedBelow x_undos x_length x_seenMany x_first x_behind x_readFacts x_readMembers x_readLeeches x_clauses x_doing x_hasNow x_knowsNow x_isOff x_row n r_ret v3 hr H locs ls hP hD hS (lv_sub hl [1] rfl)
  · have hr := x_ift hr c_1
    refine lv_iload_n hx hb dX8_as_66 rfl (lv_at hl 1 rfl) ?_
    refine lv_iconst (v := 4) hx hb dX8_as_67 (by decide) ?_
    refine lv_icmp_ne (tgt := 75) hx hb dX8_as_68 (by decide) (fun c_2 => ?_) (fun c_2 => ?_)
    · have hr := x_iff hr c_2
      exact kX8_as_75 E0 a_this a_row a_isKept a_text a_seenMember a_seenMinutes a_seenFact a_seenKnew a_sizes a_sorts a_places a_belows a_clubWord a_factWord a_memberWord a_commonWord a_stripedWord a_greedyWord a_bishopWord a_muffWord a_onWord a_line a_bestLine a_moved a_movedBelow x_undos x_length x_seenMany x_first x_behind x_readFacts x_readMembers x_readLeeches x_clauses x_doing x_hasNow x_knowsNow x_isOff x_row n r_ret v3 hr H locs ls hP hD hS (lv_sub hl [1] rfl)
    · have hr := x_ift hr c_2
      exact kX8_as_71 E0 a_this a_row a_isKept a_text a_seenMember a_seenMinutes a_seenFact a_seenKnew a_sizes a_sorts a_places a_belows a_clubWord a_factWord a_memberWord a_commonWord a_stripedWord a_greedyWord a_bishopWord a_muffWord a_onWord a_line a_bestLine a_moved a_movedBelow x_undos x_length x_seenMany x_first x_behind x_readFacts x_readMembers x_readLeeches x_clauses x_doing x_hasNow x_knowsNow x_isOff x_row n r_ret v3 hr H locs ls hP hD hS (lv_sub hl [1] rfl)
set_option maxHeartbeats 4000000 in
set_option maxRecDepth 100000 in
theorem kX8_as_0 {p : Program} {l : Launch} {e : Env} {s : State} {m : MethodId} {args : Array Value} {below : List Frame} {meth : Method} {cd : Code} {D : va_G} {c : Nat → ClassId} {A : Nat → Prop} (E0 : xE p s m args meth cd D (xT c) A RX8 cX8_as 5 (some .int) wsX8_as) (a_this : Nat) (a_row : Nat) (a_isKept : Nat) (a_text : Nat) (a_seenMember : Nat) (a_seenMinutes : Nat) (a_seenFact : Nat) (a_seenKnew : Nat) (a_sizes : Nat) (a_sorts : Nat) (a_places : Nat) (a_belows : Nat) (a_clubWord : Nat) (a_factWord : Nat) (a_memberWord : Nat) (a_commonWord : Nat) (a_stripedWord : Nat) (a_greedyWord : Nat) (a_bishopWord : Nat) (a_muffWord : Nat) (a_onWord : Nat) (a_line : Nat) (a_bestLine : Nat) (a_moved : Nat) (a_movedBelow : Nat) (x_undos : Int32) (x_length : Int32) (x_seenMany : Int32) (x_first : Int32) (x_behind : Int32) (x_readFacts : Int32) (x_readMembers : Int32) (x_readLeeches : Int32) (x_clauses : Int32) (x_doing : Int32) (x_hasNow : Int32) (x_knowsNow : Int32) (x_isOff : Int32) (x_row : Nat → Int32) (n : Nat) (r_ret : Int32) (v1 : Int32) (v2 : Int32) (hr : fX8_as n x_row v1 v2 = some (r_ret)) : GX8_as p l e s m args below meth cd D c A a_this a_row a_isKept a_text a_seenMember a_seenMinutes a_seenFact a_seenKnew a_sizes a_sorts a_places a_belows a_clubWord a_factWord a_memberWord a_commonWord a_stripedWord a_greedyWord a_bishopWord a_muffWord a_onWord a_line a_bestLine a_moved a_movedBelow x_undos x_length x_seenMany x_first x_behind x_readFacts x_readMembers x_readLeeches x_clauses x_doing x_hasNow x_knowsNow x_isOff x_row r_ret 0 [] [(0, .ref a_this), (1, .int v1), (2, .int v2)] := by
  have E1 := E0
  obtain ⟨hx, hb, hml, hret, hown, hts, hlocks, hA, hK⟩ := E1
  intro H locs ls hP hD hS hl
  unfold fX8_as at hr
  refine lv_aload_n hx hb dX8_as_0 rfl (lv_at hl 0 rfl) ?_
  refine lv_iload_n hx hb dX8_as_1 rfl (lv_at hl 1 rfl) ?_
  obtain ⟨q1_0, hc1, hr⟩ := x_bind hr
  refine x_runi (wr := []) (wf := [(a_this, .inr (8, [.ref a_row, .int x_undos, .ref a_isKept, .ref a_text, .int x_length, .int x_seenMany, .ref a_seenMember, .ref a_seenMinutes, .ref a_seenFact, .ref a_seenKnew, .ref a_sizes, .ref a_sorts, .ref a_places, .ref a_belows, .int x_first, .int x_behind, .int x_readFacts, .int x_readMembers, .int x_readLeeches, .int x_clauses, .int x_doing, .ref a_clubWord, .ref a_factWord, .ref a_memberWord, .ref a_commonWord, .ref a_stripedWord, .ref a_greedyWord, .ref a_bishopWord, .ref a_muffWord, .ref a_onWord, .int x_hasNow, .int x_knowsNow, .int x_isOff, .ref a_line, .ref a_bestLine, .ref a_moved, .ref a_movedBelow])), (a_row, .inl (c 0, 624, .inl x_row))]) (x_goV (As := [.int v1]) (rest := []) ⟨hx, hb, hml, hown, hts⟩ (mX8_isLeech l D c a_this a_row a_isKept a_text a_seenMember a_seenMinutes a_seenFact a_seenKnew a_sizes a_sorts a_places a_belows a_clubWord a_factWord a_memberWord a_commonWord a_stripedWord a_greedyWord a_bishopWord a_muffWord a_onWord a_line a_bestLine a_moved a_movedBelow H.size x_undos x_length x_seenMany x_first x_behind x_readFacts x_readMembers x_readLeeches x_clauses x_doing x_hasNow x_knowsNow x_isOff x_row v1 n _ hc1) (cwV 1 hts gX8_as_X8_isLeech rfl rfl rfl (by decide +kernel) ⟨Nat.le_of_ble_eq_true rfl, Nat.le_of_ble_eq_true rfl⟩) xB_t hP hD hK [0, 1] rfl (by decide) (fun _ _ _ => trivial) 0 8 rfl rfl rfl rfl hl.1 rfl (Nat.le_of_ble_eq_true rfl) dX8_as_2) hP hD hS hA [0, 1] [] [0, 1] rfl rfl rfl ⟨by decide, by decide, by decide⟩ (fun H locs hP hD hS => ?_)
  refine lv_if_ne (tgt := 11) hx hb dX8_as_5 (by decide) (fun c_2 => ?_) (fun c_2 => ?_)
  · have hr := x_iff hr c_2
    refine lv_iload_n hx hb dX8_as_11 rfl (lv_at hl 2 rfl) ?_
    refine lv_i2l hx hb dX8_as_12 rfl ?_
    refine lv_lconst (v := 0) hx hb dX8_as_13 (by decide) ?_
    refine lv_ldc2 hx hb hown (hts _ lkX8_as_J212) dX8_as_14 ?_
    obtain ⟨q3_0, hc3, hr⟩ := x_bind hr
    refine x_runi (wr := [(a_this, .inr (8, [.ref a_row, .int x_undos, .ref a_isKept, .ref a_text, .int x_length, .int x_seenMany, .ref a_seenMember, .ref a_seenMinutes, .ref a_seenFact, .ref a_seenKnew, .ref a_sizes, .ref a_sorts, .ref a_places, .ref a_belows, .int x_first, .int x_behind, .int x_readFacts, .int x_readMembers, .int x_readLeeches, .int x_clauses, .int x_doing, .ref a_clubWord, .ref a_factWord, .ref a_memberWord, .ref a_commonWord, .ref a_stripedWord, .ref a_greedyWord, .ref a_bishopWord, .ref a_muffWord, .ref a_onWord, .int x_hasNow, .int x_knowsNow, .int x_isOff, .ref a_line, .ref a_bestLine, .ref a_moved, .ref a_movedBelow])), (a_row, .inl (c 0, 624, .inl x_row))]) (wf := [(a_this, .inr (8, [.ref a_row, .int x_undos, .ref a_isKept, .ref a_text, .int x_length, .int x_seenMany, .ref a_seenMember, .ref a_seenMinutes, .ref a_seenFact, .ref a_seenKnew, .ref a_sizes, .ref a_sorts, .ref a_places, .ref a_belows, .int x_first, .int x_behind, .int x_readFacts, .int x_readMembers, .int x_readLeeches, .int x_clauses, .int x_doing, .ref a_clubWord, .ref a_factWord, .ref a_memberWord, .ref a_commonWord, .ref a_stripedWord, .ref a_greedyWord, .ref a_bishopWord, .ref a_muffWord, .ref a_onWord, .int x_hasNow, .int x_knowsNow, .int x_isOff, .ref a_line, .ref a_bestLine, .ref a_moved, .ref a_movedBelow])), (a_row, .inl (c 0, 624, .inl x_row))]) (x_goS (As := [.long v2.toInt64, .long 0, .long 5]) (rest := []) ⟨hx, hb, hml, hown, hts⟩ (mX8_in l D c H.size v2.toInt64 0 5 n _ hc3) (va_cwS 3 hts gX8_as_X8_in rfl rfl rfl (by decide +kernel) ⟨Nat.le_of_ble_eq_true rfl, Nat.le_of_ble_eq_true rfl⟩) xB_t hP hD hK [] rfl (by decide) (fun _ _ _ => trivial) rfl hl.1 rfl (Nat.le_of_ble_eq_true rfl) dX8_as_17) hP hD hS hA [] [0, 1] [0, 1] rfl rfl rfl ⟨by decide, by decide, by decide⟩ (fun H locs hP hD hS => ?_)
    refine lv_if_ne (tgt := 26) hx hb dX8_as_20 (by decide) (fun c_4 => ?_) (fun c_4 => ?_)
    · have hr := x_iff hr c_4
      refine lv_aload_n hx hb dX8_as_26 rfl (lv_at hl 0 rfl) ?_
      refine va_get (D := D) (ci := 8) (v := .ref a_row) (C := RX8) (T := TX8) (N := 37) hx hb hts inX8_as_X8 hown hK hP 0 rfl rfl 0 (by decide) (hts _ lkX8_as_f7) (fun _ h9 => h9) rfl dX8_as_27 ?_
      refine lv_bipush (v := 18) hx hb dX8_as_30 (by decide) ?_
      refine lv_iload_n hx hb dX8_as_32 rfl (lv_at hl 1 rfl) ?_
      refine lv_iadd hx hb dX8_as_33 ?_
      obtain ⟨b_5, hr⟩ := x_chk hr
      refine va_iald hx hb hK hP 1 0 rfl rfl b_5 dX8_as_34 ?_
      refine lv_istore_n (lv' := [(3, .int (x_row (18 + v1).toNatClampNeg)), (0, .ref a_this), (1, .int v1), (2, .int v2)]) hx hb dX8_as_35 rfl hl (by decide) rfl (fun ls hl => ?_)
      refine lv_iload_n hx hb dX8_as_36 rfl (lv_at hl 3 rfl) ?_
      refine lv_if_eq (tgt := 71) hx hb dX8_as_37 (by decide) (fun c_6 => ?_) (fun c_6 => ?_)
      · have hr := x_ift hr c_6
        exact kX8_as_71 E0 a_this a_row a_isKept a_text a_seenMember a_seenMinutes a_seenFact a_seenKnew a_sizes a_sorts a_places a_belows a_clubWord a_factWord a_memberWord a_commonWord a_stripedWord a_greedyWord a_bishopWord a_muffWord a_onWord a_line a_bestLine a_moved a_movedBelow x_undos x_length x_seenMany x_first x_behind x_readFacts x_readMembers x_readLeeches x_clauses x_doing x_hasNow x_knowsNow x_isOff x_row n r_ret (x_row (18 + v1).toNatClampNeg) hr H locs ls hP hD hS (lv_sub hl [0] rfl)
      · have hr := x_iff hr c_6
        refine lv_iload_n hx hb dX8_as_40 rfl (lv_at hl 3 rfl) ?_
        refine lv_iload_n hx hb dX8_as_41 rfl (lv_at hl 0 rfl) ?_
        refine lv_iconst (v := 1) hx hb dX8_as_42 (by decide) ?_
        refine lv_iadd hx hb dX8_as_43 ?_
        refine lv_icmp_eq (tgt := 71) hx hb dX8_as_44 (by decide) (fun c_7 => ?_) (fun c_7 => ?_)
        · have hr := x_ift hr c_7
          exact kX8_as_71 E0 a_this a_row a_isKept a_text a_seenMember a_seenMinutes a_seenFact a_seenKnew a_sizes a_sorts a_places a_belows a_clubWord a_factWord a_memberWord a_commonWord a_stripedWord a_greedyWord a_bishopWord a_muffWord a_onWord a_line a_bestLine a_moved a_movedBelow x_undos x_length x_seenMany x_first x_behind x_readFacts x_readMembers x_readLeeches x_clauses x_doing x_hasNow x_knowsNow x_isOff x_row n r_ret (x_row (18 + v1).toNatClampNeg) hr H locs ls hP hD hS (lv_sub hl [0] rfl)
        · have hr := x_iff hr c_7
          refine lv_iload_n hx hb dX8_as_47 rfl (lv_at hl 0 rfl) ?_
          refine lv_iconst (v := 3) hx hb dX8_as_48 (by decide) ?_
          refine lv_icmp_ge (tgt := 61) hx hb dX8_as_49 (by decide) (fun c_8 => ?_) (fun c_8 => ?_)
          · have hr := x_ift hr c_8
            exact kX8_as_61 E0 a_this a_row a_isKept a_text a_seenMember a_seenMinutes a_seenFact a_seenKnew a_sizes a_sorts a_places a_belows a_clubWord a_factWord a_memberWord a_commonWord a_stripedWord a_greedyWord a_bishopWord a_muffWord a_onWord a_line a_bestLine a_moved a_movedBelow x_undos x_length x_seenMany x_first x_behind x_readFacts x_readMembers x_readLeeches x_clauses x_doing x_hasNow x_knowsNow x_isOff x_row n r_ret v2 (x_row (18 + v1).toNatClampNeg) hr H locs ls hP hD hS (lv_sub hl [3, 0] rfl)
          · have hr := x_iff hr c_8
            refine lv_iload_n hx hb dX8_as_52 rfl (lv_at hl 3 rfl) ?_
            refine lv_if_le (tgt := 61) hx hb dX8_as_53 (by decide) (fun c_9 => ?_) (fun c_9 => ?_)
            · have hr := x_ift hr c_9
              exact kX8_as_61 E0 a_this a_row a_isKept a_text a_seenMember a_seenMinutes a_seenFact a_seenKnew a_sizes a_sorts a_places a_belows a_clubWord a_factWord a_memberWord a_commonWord a_stripedWord a_greedyWord a_bishopWord a_muffWord a_onWord a_line a_bestLine a_moved a_movedBelow x_undos x_length x_seenMany x_first x_behind x_readFacts x_readMembers x_readLeeches x_clauses x_doing x_hasNow x_knowsNow x_isOff x_row n r_ret v2 (x_row (18 + v1).toNatClampNeg) hr H locs ls hP hD hS (lv_sub hl [3, 0] rfl)
            · have hr := x_iff hr c_9
              refine lv_iload_n hx hb dX8_as_56 rfl (lv_at hl 3 rfl) ?_
              refine lv_iload_n hx hb dX8_as_57 rfl (lv_at hl 0 rfl) ?_
              refine lv_icmp_le (tgt := 71) hx hb dX8_as_58 (by decide) (fun c_10 => ?_) (fun c_10 => ?_)
              · have hr := x_ift hr c_10
                exact kX8_as_71 E0 a_this a_row a_isKept a_text a_seenMember a_seenMinutes a_seenFact a_seenKnew a_sizes a_sorts a_places a_belows a_clubWord a_factWord a_memberWord a_commonWord a_stripedWord a_greedyWord a_bishopWord a_muffWord a_onWord a_line a_bestLine a_moved a_movedBelow x_undos x_length x_seenMany x_first x_behind x_readFacts x_readMembers x_readLeeches x_clauses x_doing x_hasNow x_knowsNow x_isOff x_row n r_ret (x_row (18 + v1).toNatClampNeg) hr H locs ls hP hD hS (lv_sub hl [0] rfl)
              · have hr := x_iff hr c_10
                exact kX8_as_61 E0 a_this a_row a_isKept a_text a_seenMember a_seenMinutes a_seenFact a_seenKnew a_sizes a_sorts a_places a_belows a_clubWord a_factWord a_memberWord a_commonWord a_stripedWord a_greedyWord a_bishopWord a_muffWord a_onWord a_line a_bestLine a_moved a_movedBelow x_undos x_length x_seenMany x_first x_behind x_readFacts x_readMembers x_readLeeches x_clauses x_doing x_hasNow x_knowsNow x_isOff x_row n r_ret v2 (x_row (18 + v1).toNatClampNeg) hr H locs ls hP hD hS (lv_sub hl [3, 0] rfl)
    · have hr := x_ift hr c_4
      refine lv_bipush (v := (-3)) hx hb dX8_as_23 (by decide) ?_
      have e0 := x_some hr
      subst e0
      exact x_reti hx hb hret hlocks hP hD hK hS dX8_as_25
  · have hr := x_ift hr c_2
    refine lv_bipush (v := (-2)) hx hb dX8_as_8 (by decide) ?_
    have e0 := x_some hr
    subst e0
    exact x_reti hx hb hret hlocks hP hD hK hS dX8_as_10
set_option maxHeartbeats 4000000 in
set_option maxRecDepth 100000 in
theorem mX8_as (l : Launch) (D : va_G) (c : Nat → ClassId) (a_this : Nat) (a_row : Nat) (a_isKept : Nat) (a_text : Nat) (a_seenMember : Nat) (a_seenMinutes : Nat) (a_seenFact : Nat) (a_seenKnew : Nat) (a_sizes : Nat) (a_sorts : Nat) (a_places : Nat) (a_belows : Nat) (a_clubWord : Nat) (a_factWord : Nat) (a_memberWord : Nat) (a_commonWord : Nat) (a_stripedWord : Nat) (a_greedyWord : Nat) (a_bishopWord : Nat) (a_muffWord : Nat) (a_onWord : Nat) (a_line : Nat) (a_bestLine : Nat) (a_moved : Nat) (a_movedBelow : Nat) (sz : Nat) (x_undos : Int32) (x_length : Int32) (x_seenMany : Int32) (x_first : Int32) (x_behind : Int32) (x_readFacts : Int32) (x_readMembers : Int32) (x_readLeeches : Int32) (x_clauses : Int32) (x_doing : Int32) (x_hasNow : Int32) (x_knowsNow : Int32) (x_isOff : Int32) (x_row : Nat → Int32) (v1 : Int32) (v2 : Int32) (n : Nat) (r_ret : Int32) (h : fX8_as n x_row v1 v2 = some (r_ret)) : Met l yX8_as wsX8_as ({ frames := 2, cells := 0, slots := 0, locals := 46 } : Room) (xPc D (xT c) sz [.ref a_this, .int v1, .int v2] (wX8_as c a_this a_row a_isKept a_text a_seenMember a_seenMinutes a_seenFact a_seenKnew a_sizes a_sorts a_places a_belows a_clubWord a_factWord a_memberWord a_commonWord a_stripedWord a_greedyWord a_bishopWord a_muffWord a_onWord a_line a_bestLine a_moved a_movedBelow x_undos x_length x_seenMany x_first x_behind x_readFacts x_readMembers x_readLeeches x_clauses x_doing x_hasNow x_knowsNow x_isOff x_row) (fun _ => True)) (xQi D (xT c) (va_A (wX8_as c a_this a_row a_isKept a_text a_seenMember a_seenMinutes a_seenFact a_seenKnew a_sizes a_sorts a_places a_belows a_clubWord a_factWord a_memberWord a_commonWord a_stripedWord a_greedyWord a_bishopWord a_muffWord a_onWord a_line a_bestLine a_moved a_movedBelow x_undos x_length x_seenMany x_first x_behind x_readFacts x_readMembers x_readLeeches x_clauses x_doing x_hasNow x_knowsNow x_isOff x_row) sz) r_ret (wX8_as c a_this a_row a_isKept a_text a_seenMember a_seenMinutes a_seenFact a_seenKnew a_sizes a_sorts a_places a_belows a_clubWord a_factWord a_memberWord a_commonWord a_stripedWord a_greedyWord a_bishopWord a_muffWord a_onWord a_line a_bestLine a_moved a_movedBelow x_undos x_length x_seenMany x_first x_behind x_readFacts x_readMembers x_readLeeches x_clauses x_doing x_hasNow x_knowsNow x_isOff x_row)) 0 0 (va_A (wX8_as c a_this a_row a_isKept a_text a_seenMember a_seenMinutes a_seenFact a_seenKnew a_sizes a_sorts a_places a_belows a_clubWord a_factWord a_memberWord a_commonWord a_stripedWord a_greedyWord a_bishopWord a_muffWord a_onWord a_line a_bestLine a_moved a_movedBelow x_undos x_length x_seenMany x_first x_behind x_readFacts x_readMembers x_readLeeches x_clauses x_doing x_hasNow x_knowsNow x_isOff x_row) sz) := by
  refine Met.ofW (cc := cX8_as) (maxL := 5) (ret := (some .int)) (by decide) rfl ?_
  intro p e s m args below meth cd s₁ B hml hv
  obtain ⟨rfl, hsz, hP, hK, hD0, hV⟩ := hv
  subst hsz
  have hl := lv_entry [.ref a_this, .int v1, .int v2] (n := 5) (Nat.le_of_ble_eq_true rfl)
  rw [lg_entry_eq]
  exact kX8_as_0 (A := va_A (wX8_as c a_this a_row a_isKept a_text a_seenMember a_seenMinutes a_seenFact a_seenKnew a_sizes a_sorts a_places a_belows a_clubWord a_factWord a_memberWord a_commonWord a_stripedWord a_greedyWord a_bishopWord a_muffWord a_onWord a_line a_bestLine a_moved a_movedBelow x_undos x_length x_seenMany x_first x_behind x_readFacts x_readMembers x_readLeeches x_clauses x_doing x_hasNow x_knowsNow x_isOff x_row) s.heap.size) ⟨B.exec, B.bytes, hml, B.returns, findClass_of_methodNamed B.named, atoms_spec (ws := wsX8_as) B.pre, B.notSynchronized, fun q h => Or.inr h, hK⟩ a_this a_row a_isKept a_text a_seenMember a_seenMinutes a_seenFact a_seenKnew a_sizes a_sorts a_places a_belows a_clubWord a_factWord a_memberWord a_commonWord a_stripedWord a_greedyWord a_bishopWord a_muffWord a_onWord a_line a_bestLine a_moved a_movedBelow x_undos x_length x_seenMany x_first x_behind x_readFacts x_readMembers x_readLeeches x_clauses x_doing x_hasNow x_knowsNow x_isOff x_row n r_ret v1 v2 h s.heap [] _ hP hD0.self va_S.rf hl

abbrev wX8_lost (c : Nat → ClassId) (a_this : Nat) (a_row : Nat) (a_isKept : Nat) (a_text : Nat) (a_seenMember : Nat) (a_seenMinutes : Nat) (a_seenFact : Nat) (a_seenKnew : Nat) (a_sizes : Nat) (a_sorts : Nat) (a_places : Nat) (a_belows : Nat) (a_clubWord : Nat) (a_factWord : Nat) (a_memberWord : Nat) (a_commonWord : Nat) (a_stripedWord : Nat) (a_greedyWord : Nat) (a_bishopWord : Nat) (a_muffWord : Nat) (a_onWord : Nat) (a_line : Nat) (a_bestLine : Nat) (a_moved : Nat) (a_movedBelow : Nat) (x_undos : Int32) (x_length : Int32) (x_seenMany : Int32) (x_first : Int32) (x_behind : Int32) (x_readFacts : Int32) (x_readMembers : Int32) (x_readLeeches : Int32) (x_clauses : Int32) (x_doing : Int32) (x_hasNow : Int32) (x_knowsNow : Int32) (x_isOff : Int32) (x_row : Nat → Int32) : va_W := [(a_this, .inr (8, [.ref a_row, .int x_undos, .ref a_isKept, .ref a_text, .int x_length, .int x_seenMany, .ref a_seenMember, .ref a_seenMinutes, .ref a_seenFact, .ref a_seenKnew, .ref a_sizes, .ref a_sorts, .ref a_places, .ref a_belows, .int x_first, .int x_behind, .int x_readFacts, .int x_readMembers, .int x_readLeeches, .int x_clauses, .int x_doing, .ref a_clubWord, .ref a_factWord, .ref a_memberWord, .ref a_commonWord, .ref a_stripedWord, .ref a_greedyWord, .ref a_bishopWord, .ref a_muffWord, .ref a_onWord, .int x_hasNow, .int x_knowsNow, .int x_isOff, .ref a_line, .ref a_bestLine, .ref a_moved, .ref a_movedBelow])), (a_row, .inl (c 0, 624, .inl x_row))]
def GX8_lost (p : Program) (l : Launch) (e : Env) (s : State) (m : MethodId) (args : Array Value) (below : List Frame) (meth : Method) (cd : Code) (D : va_G) (c : Nat → ClassId) (A : Nat → Prop) (a_this : Nat) (a_row : Nat) (a_isKept : Nat) (a_text : Nat) (a_seenMember : Nat) (a_seenMinutes : Nat) (a_seenFact : Nat) (a_seenKnew : Nat) (a_sizes : Nat) (a_sorts : Nat) (a_places : Nat) (a_belows : Nat) (a_clubWord : Nat) (a_factWord : Nat) (a_memberWord : Nat) (a_commonWord : Nat) (a_stripedWord : Nat) (a_greedyWord : Nat) (a_bishopWord : Nat) (a_muffWord : Nat) (a_onWord : Nat) (a_line : Nat) (a_bestLine : Nat) (a_moved : Nat) (a_movedBelow : Nat) (x_undos : Int32) (x_length : Int32) (x_seenMany : Int32) (x_first : Int32) (x_behind : Int32) (x_readFacts : Int32) (x_readMembers : Int32) (x_readLeeches : Int32) (x_clauses : Int32) (x_doing : Int32) (x_hasNow : Int32) (x_knowsNow : Int32) (x_isOff : Int32) (x_row : Nat → Int32) (r_ret : Int32) (pc : Nat) (st : List Value) (loc : List (Nat × Value)) : Prop :=
  ∀ (H : Heap) (locs : List Loc) (ls : Array Slot), va_P D vwCl (wX8_lost c a_this a_row a_isKept a_text a_seenMember a_seenMinutes a_seenFact a_seenKnew a_sizes a_sorts a_places a_belows a_clubWord a_factWord a_memberWord a_commonWord a_stripedWord a_greedyWord a_bishopWord a_muffWord a_onWord a_line a_bestLine a_moved a_movedBelow x_undos x_length x_seenMany x_first x_behind x_readFacts x_readMembers x_readLeeches x_clauses x_doing x_hasNow x_knowsNow x_isOff x_row) H → va_D A (wX8_lost c a_this a_row a_isKept a_text a_seenMember a_seenMinutes a_seenFact a_seenKnew a_sizes a_sorts a_places a_belows a_clubWord a_factWord a_memberWord a_commonWord a_stripedWord a_greedyWord a_bishopWord a_muffWord a_onWord a_line a_bestLine a_moved a_movedBelow x_undos x_length x_seenMany x_first x_behind x_readFacts x_readMembers x_readLeeches x_clauses x_doing x_hasNow x_knowsNow x_isOff x_row) → va_S A s.heap H locs → lv_has ls 5 loc → W p l e ({ frames := 1, cells := 0, slots := 0, locals := 21 } : Room) s m args below meth cd H locs 0 0 (MQ below (xQi D (xT c) A r_ret (wX8_lost c a_this a_row a_isKept a_text a_seenMember a_seenMinutes a_seenFact a_seenKnew a_sizes a_sorts a_places a_belows a_clubWord a_factWord a_memberWord a_commonWord a_stripedWord a_greedyWord a_bishopWord a_muffWord a_onWord a_line a_bestLine a_moved a_movedBelow x_undos x_length x_seenMany x_first x_behind x_readFacts x_readMembers x_readLeeches x_clauses x_doing x_hasNow x_knowsNow x_isOff x_row)) args s 0 0 A) (F0 m pc ls st)
theorem lkX8_lost_f7 : Cond.fieldLink RX8 7 "LeechClubModel" "row" "[I" ∈ wsX8_lost := by decide +kernel
theorem inX8_lost_X8 : ∀ w ∈ wsX80, w ∈ wsX8_lost := by decide +kernel
set_option maxHeartbeats 4000000 in
set_option maxRecDepth 100000 in
theorem kX8_lost_45 {p : Program} {l : Launch} {e : Env} {s : State} {m : MethodId} {args : Array Value} {below : List Frame} {meth : Method} {cd : Code} {D : va_G} {c : Nat → ClassId} {A : Nat → Prop} (E0 : xE p s m args meth cd D (xT c) A RX8 cX8_lost 5 (some .int) wsX8_lost) (a_this : Nat) (a_row : Nat) (a_isKept : Nat) (a_text : Nat) (a_seenMember : Nat) (a_seenMinutes : Nat) (a_seenFact : Nat) (a_seenKnew : Nat) (a_sizes : Nat) (a_sorts : Nat) (a_places : Nat) (a_belows : Nat) (a_clubWord : Nat) (a_factWord : Nat) (a_memberWord : Nat) (a_commonWord : Nat) (a_stripedWord : Nat) (a_greedyWord : Nat) (a_bishopWord : Nat) (a_muffWord : Nat) (a_onWord : Nat) (a_line : Nat) (a_bestLine : Nat) (a_moved : Nat) (a_movedBelow : Nat) (x_undos : Int32) (x_length : Int32) (x_seenMany : Int32) (x_first : Int32) (x_behind : Int32) (x_readFacts : Int32) (x_readMembers : Int32) (x_readLeeches : Int32) (x_clauses : Int32) (x_doing : Int32) (x_hasNow : Int32) (x_knowsNow : Int32) (x_isOff : Int32) (x_row : Nat → Int32) (n : Nat) (r_ret : Int32) (r_5 : Int32 → Int32 → Int32 → Option (Int32)) (h_5 : ∀ (v2 : Int32) (v3 : Int32) (v4 : Int32), r_5 v2 v3 v4 = some (r_ret) → GX8_lost p l e s m args below meth cd D c A a_this a_row a_isKept a_text a_seenMember a_seenMinutes a_seenFact a_seenKnew a_sizes a_sorts a_places a_belows a_clubWord a_factWord a_memberWord a_commonWord a_stripedWord a_greedyWord a_bishopWord a_muffWord a_onWord a_line a_bestLine a_moved a_movedBelow x_undos x_length x_seenMany x_first x_behind x_readFacts x_readMembers x_readLeeches x_clauses x_doing x_hasNow x_knowsNow x_isOff x_row r_ret 5 [] [(0, .ref a_this), (2, .int v2), (3, .int v3), (4, .int v4)]) (v2 : Int32) (v4 : Int32) (t0 : Int32) (t1 : Int32) (hr : fX8_lost_45 n r_5 x_row v2 v4 t0 t1 = some (r_ret)) : GX8_lost p l e s m args below meth cd D c A a_this a_row a_isKept a_text a_seenMember a_seenMinutes a_seenFact a_seenKnew a_sizes a_sorts a_places a_belows a_clubWord a_factWord a_memberWord a_commonWord a_stripedWord a_greedyWord a_bishopWord a_muffWord a_onWord a_line a_bestLine a_moved a_movedBelow x_undos x_length x_seenMany x_first x_behind x_readFacts x_readMembers x_readLeeches x_clauses x_doing x_hasNow x_knowsNow x_isOff x_row r_ret 45 [.int t1, .int t0] [(0, .ref a_this), (2, .int v2), (4, .int v4)] := by
  have E1 := E0
  obtain ⟨hx, hb, hml, hret, hown, hts, hlocks, hA, hK⟩ := E1
  intro H locs ls hP hD hS hl
  unfold fX8_lost_45 at hr
  refine lv_iand hx hb dX8_lost_45 ?_
  refine lv_istore_n (lv' := [(3, .int (t0 &&& t1)), (0, .ref a_this), (2, .int v2), (4, .int v4)]) hx hb dX8_lost_46 rfl hl (by decide) rfl (fun ls hl => ?_)
  refine lv_iinc (v := v4 + 1) (lv' := [(4, .int (v4 + 1)), (3, .int (t0 &&& t1)), (0, .ref a_this), (2, .int v2)]) hx hb dX8_lost_47 hl (k := 3) rfl rfl (by decide) rfl (fun ls hl => ?_)
  refine lv_goto (tgt := 5) hx hb dX8_lost_50 (by decide) ?_
  exact h_5 v2 (t0 &&& t1) (v4 + 1) hr H locs ls hP hD hS (lv_sub hl [2, 3, 1, 0] rfl)
set_option maxHeartbeats 4000000 in
set_option maxRecDepth 100000 in
theorem kX8_lost_5 {p : Program} {l : Launch} {e : Env} {s : State} {m : MethodId} {args : Array Value} {below : List Frame} {meth : Method} {cd : Code} {D : va_G} {c : Nat → ClassId} {A : Nat → Prop} (E0 : xE p s m args meth cd D (xT c) A RX8 cX8_lost 5 (some .int) wsX8_lost) (a_this : Nat) (a_row : Nat) (a_isKept : Nat) (a_text : Nat) (a_seenMember : Nat) (a_seenMinutes : Nat) (a_seenFact : Nat) (a_seenKnew : Nat) (a_sizes : Nat) (a_sorts : Nat) (a_places : Nat) (a_belows : Nat) (a_clubWord : Nat) (a_factWord : Nat) (a_memberWord : Nat) (a_commonWord : Nat) (a_stripedWord : Nat) (a_greedyWord : Nat) (a_bishopWord : Nat) (a_muffWord : Nat) (a_onWord : Nat) (a_line : Nat) (a_bestLine : Nat) (a_moved : Nat) (a_movedBelow : Nat) (x_undos : Int32) (x_length : Int32) (x_seenMany : Int32) (x_first : Int32) (x_behind : Int32) (x_readFacts : Int32) (x_readMembers : Int32) (x_readLeeches : Int32) (x_clauses : Int32) (x_doing : Int32) (x_hasNow : Int32) (x_knowsNow : Int32) (x_isOff : Int32) (x_row : Nat → Int32) (n : Nat) (r_ret : Int32) : ∀ (k : Nat) (v2 : Int32) (v3 : Int32) (v4 : Int32), fX8_lost_5 n x_row k v2 v3 v4 = some (r_ret) → GX8_lost p l e s m args below meth cd D c A a_this a_row a_isKept a_text a_seenMember a_seenMinutes a_seenFact a_seenKnew a_sizes a_sorts a_places a_belows a_clubWord a_factWord a_memberWord a_commonWord a_stripedWord a_greedyWord a_bishopWord a_muffWord a_onWord a_line a_bestLine a_moved a_movedBelow x_undos x_length x_seenMany x_first x_behind x_readFacts x_readMembers x_readLeeches x_clauses x_doing x_hasNow x_knowsNow x_isOff x_row r_ret 5 [] [(0, .ref a_this), (2, .int v2), (3, .int v3), (4, .int v4)] := by
  have E1 := E0
  obtain ⟨hx, hb, hml, hret, hown, hts, hlocks, hA, hK⟩ := E1
  intro k
  induction k with
  | zero => intro v2 v3 v4 hr; cases hr
  | succ k h_5 =>
    intro v2 v3 v4 hr H locs ls hP hD hS hl
    unfold fX8_lost_5 at hr
    refine lv_iload hx hb dX8_lost_5 (lv_at hl 3 rfl) ?_
    refine lv_aload_n hx hb dX8_lost_7 rfl (lv_at hl 0 rfl) ?_
    refine va_get (D := D) (ci := 8) (v := .ref a_row) (C := RX8) (T := TX8) (N := 37) hx hb hts inX8_lost_X8 hown hK hP 0 rfl rfl 0 (by decide) (hts _ lkX8_lost_f7) (fun _ h9 => h9) rfl dX8_lost_8 ?_
    refine lv_bipush (v := 23) hx hb dX8_lost_11 (by decide) ?_
    refine va_iald hx hb hK hP 1 0 rfl rfl (by unfold vp_in; decide) dX8_lost_13 ?_
    refine W.eq (g2 := F0 m 14 ls [.int (x_row 23), .int v4]) rfl ?_
    refine lv_icmp_ge (tgt := 53) hx hb dX8_lost_14 (by decide) (fun c_1 => ?_) (fun c_1 => ?_)
    · have hr := x_ift hr c_1
      refine lv_iload_n hx hb dX8_lost_53 rfl (lv_at hl 2 rfl) ?_
      have e0 := x_some hr
      subst e0
      exact x_reti hx hb hret hlocks hP hD hK hS dX8_lost_54
    · have hr := x_iff hr c_1
      refine lv_iload_n hx hb dX8_lost_17 rfl (lv_at hl 2 rfl) ?_
      refine lv_aload_n hx hb dX8_lost_18 rfl (lv_at hl 0 rfl) ?_
      refine va_get (D := D) (ci := 8) (v := .ref a_row) (C := RX8) (T := TX8) (N := 37) hx hb hts inX8_lost_X8 hown hK hP 0 rfl rfl 0 (by decide) (hts _ lkX8_lost_f7) (fun _ h9 => h9) rfl dX8_lost_19 ?_
      refine lv_bipush (v := 36) hx hb dX8_lost_22 (by decide) ?_
      refine lv_iload hx hb dX8_lost_24 (lv_at hl 3 rfl) ?_
      refine lv_iadd hx hb dX8_lost_26 ?_
      obtain ⟨b_2, hr⟩ := x_chk hr
      refine va_iald hx hb hK hP 1 0 rfl rfl b_2 dX8_lost_27 ?_
      refine lv_iload_n hx hb dX8_lost_28 rfl (lv_at hl 1 rfl) ?_
      obtain ⟨q3_0, hc3, hr⟩ := x_bind hr
      refine x_runi (wr := [(a_this, .inr (8, [.ref a_row, .int x_undos, .ref a_isKept, .ref a_text, .int x_length, .int x_seenMany, .ref a_seenMember, .ref a_seenMinutes, .ref a_seenFact, .ref a_seenKnew, .ref a_sizes, .ref a_sorts, .ref a_places, .ref a_belows, .int x_first, .int x_behind, .int x_readFacts, .int x_readMembers, .int x_readLeeches, .int x_clauses, .int x_doing, .ref a_clubWord, .ref a_factWord, .ref a_memberWord, .ref a_commonWord, .ref a_stripedWord, .ref a_greedyWord, .ref a_bishopWord, .ref a_muffWord, .ref a_onWord, .int x_hasNow, .int x_knowsNow, .int x_isOff, .ref a_line, .ref a_bestLine, .ref a_moved, .ref a_movedBelow])), (a_row, .inl (c 0, 624, .inl x_row))]) (wf := [(a_this, .inr (8, [.ref a_row, .int x_undos, .ref a_isKept, .ref a_text, .int x_length, .int x_seenMany, .ref a_seenMember, .ref a_seenMinutes, .ref a_seenFact, .ref a_seenKnew, .ref a_sizes, .ref a_sorts, .ref a_places, .ref a_belows, .int x_first, .int x_behind, .int x_readFacts, .int x_readMembers, .int x_readLeeches, .int x_clauses, .int x_doing, .ref a_clubWord, .ref a_factWord, .ref a_memberWord, .ref a_commonWord, .ref a_stripedWord, .ref a_greedyWord, .ref a_bishopWord, .ref a_muffWord, .ref a_onWord, .int x_hasNow, .int x_knowsNow, .int x_isOff, .ref a_line, .ref a_bestLine, .ref a_moved, .ref a_movedBelow])), (a_row, .inl (c 0, 624, .inl x_row))]) (x_goS (As := [.int (x_row (36 + v4).toNatClampNeg), .int v2]) (rest := [.int v3]) ⟨hx, hb, hml, hown, hts⟩ (mX8_has l D c H.size (x_row (36 + v4).toNatClampNeg) v2 n _ hc3) (va_cwS 2 hts gX8_lost_X8_has rfl rfl rfl (by decide +kernel) ⟨Nat.le_of_ble_eq_true rfl, Nat.le_of_ble_eq_true rfl⟩) xB_t hP hD hK [] rfl (by decide) (fun _ _ _ => trivial) rfl hl.1 rfl (Nat.le_of_ble_eq_true rfl) dX8_lost_29) hP hD hS hA [] [0, 1] [0, 1] rfl rfl rfl ⟨by decide, by decide, by decide⟩ (fun H locs hP hD hS => ?_)
      refine lv_if_eq (tgt := 44) hx hb dX8_lost_32 (by decide) (fun c_4 => ?_) (fun c_4 => ?_)
      · have hr := x_ift hr c_4
        refine lv_iconst (v := (-1)) hx hb dX8_lost_44 (by decide) ?_
        exact kX8_lost_45 E0 a_this a_row a_isKept a_text a_seenMember a_seenMinutes a_seenFact a_seenKnew a_sizes a_sorts a_places a_belows a_clubWord a_factWord a_memberWord a_commonWord a_stripedWord a_greedyWord a_bishopWord a_muffWord a_onWord a_line a_bestLine a_moved a_movedBelow x_undos x_length x_seenMany x_first x_behind x_readFacts x_readMembers x_readLeeches x_clauses x_doing x_hasNow x_knowsNow x_isOff x_row n r_ret (fX8_lost_5 n x_row k) h_5 v2 v4 v3 (-1) hr H locs ls hP hD hS (lv_sub hl [0, 1, 3] rfl)
      · have hr := x_iff hr c_4
        refine lv_iconst (v := 1) hx hb dX8_lost_35 (by decide) ?_
        refine lv_iload hx hb dX8_lost_36 (lv_at hl 3 rfl) ?_
        refine lv_ishl hx hb dX8_lost_38 ?_
        refine lv_iconst (v := (-1)) hx hb dX8_lost_39 (by decide) ?_
        refine lv_ixor hx hb dX8_lost_40 ?_
        refine lv_goto (tgt := 45) hx hb dX8_lost_41 (by decide) ?_
        exact kX8_lost_45 E0 a_this a_row a_isKept a_text a_seenMember a_seenMinutes a_seenFact a_seenKnew a_sizes a_sorts a_places a_belows a_clubWord a_factWord a_memberWord a_commonWord a_stripedWord a_greedyWord a_bishopWord a_muffWord a_onWord a_line a_bestLine a_moved a_movedBelow x_undos x_length x_seenMany x_first x_behind x_readFacts x_readMembers x_readLeeches x_clauses x_doing x_hasNow x_knowsNow x_isOff x_row n r_ret (fX8_lost_5 n x_row k) h_5 v2 v4 v3 ((1 <<< (v4 &&& 31)) ^^^ (-1)) hr H locs ls hP hD hS (lv_sub hl [0, 1, 3] rfl)
set_option maxHeartbeats 4000000 in
set_option maxRecDepth 100000 in
theorem kX8_lost_0 {p : Program} {l : Launch} {e : Env} {s : State} {m : MethodId} {args : Array Value} {below : List Frame} {meth : Method} {cd : Code} {D : va_G} {c : Nat → ClassId} {A : Nat → Prop} (E0 : xE p s m args meth cd D (xT c) A RX8 cX8_lost 5 (some .int) wsX8_lost) (a_this : Nat) (a_row : Nat) (a_isKept : Nat) (a_text : Nat) (a_seenMember : Nat) (a_seenMinutes : Nat) (a_seenFact : Nat) (a_seenKnew : Nat) (a_sizes : Nat) (a_sorts : Nat) (a_places : Nat) (a_belows : Nat) (a_clubWord : Nat) (a_factWord : Nat) (a_memberWord : Nat) (a_commonWord : Nat) (a_stripedWord : Nat) (a_greedyWord : Nat) (a_bishopWord : Nat) (a_muffWord : Nat) (a_onWord : Nat) (a_line : Nat) (a_bestLine : Nat) (a_moved : Nat) (a_movedBelow : Nat) (x_undos : Int32) (x_length : Int32) (x_seenMany : Int32) (x_first : Int32) (x_behind : Int32) (x_readFacts : Int32) (x_readMembers : Int32) (x_readLeeches : Int32) (x_clauses : Int32) (x_doing : Int32) (x_hasNow : Int32) (x_knowsNow : Int32) (x_isOff : Int32) (x_row : Nat → Int32) (n : Nat) (r_ret : Int32) (v1 : Int32) (v2 : Int32) (hr : fX8_lost n x_row v1 v2 = some (r_ret)) : GX8_lost p l e s m args below meth cd D c A a_this a_row a_isKept a_text a_seenMember a_seenMinutes a_seenFact a_seenKnew a_sizes a_sorts a_places a_belows a_clubWord a_factWord a_memberWord a_commonWord a_stripedWord a_greedyWord a_bishopWord a_muffWord a_onWord a_line a_bestLine a_moved a_movedBelow x_undos x_length x_seenMany x_first x_behind x_readFacts x_readMembers x_readLeeches x_clauses x_doing x_hasNow x_knowsNow x_isOff x_row r_ret 0 [] [(0, .ref a_this), (1, .int v1), (2, .int v2)] := by
  have E1 := E0
  obtain ⟨hx, hb, hml, hret, hown, hts, hlocks, hA, hK⟩ := E1
  intro H locs ls hP hD hS hl
  unfold fX8_lost at hr
  refine lv_iload_n hx hb dX8_lost_0 rfl (lv_at hl 1 rfl) ?_
  refine lv_istore_n (lv' := [(3, .int v1), (0, .ref a_this), (1, .int v1), (2, .int v2)]) hx hb dX8_lost_1 rfl hl (by decide) rfl (fun ls hl => ?_)
  refine lv_iconst (v := 0) hx hb dX8_lost_2 (by decide) ?_
  refine lv_istore (lv' := [(4, .int 0), (3, .int v1), (0, .ref a_this), (1, .int v1), (2, .int v2)]) hx hb dX8_lost_3 hl (by decide) rfl (fun ls hl => ?_)
  exact kX8_lost_5 E0 a_this a_row a_isKept a_text a_seenMember a_seenMinutes a_seenFact a_seenKnew a_sizes a_sorts a_places a_belows a_clubWord a_factWord a_memberWord a_commonWord a_stripedWord a_greedyWord a_bishopWord a_muffWord a_onWord a_line a_bestLine a_moved a_movedBelow x_undos x_length x_seenMany x_first x_behind x_readFacts x_readMembers x_readLeeches x_clauses x_doing x_hasNow x_knowsNow x_isOff x_row n r_ret n v2 v1 0 hr H locs ls hP hD hS (lv_sub hl [2, 4, 1, 0] rfl)
set_option maxHeartbeats 4000000 in
set_option maxRecDepth 100000 in
theorem mX8_lost (l : Launch) (D : va_G) (c : Nat → ClassId) (a_this : Nat) (a_row : Nat) (a_isKept : Nat) (a_text : Nat) (a_seenMember : Nat) (a_seenMinutes : Nat) (a_seenFact : Nat) (a_seenKnew : Nat) (a_sizes : Nat) (a_sorts : Nat) (a_places : Nat) (a_belows : Nat) (a_clubWord : Nat) (a_factWord : Nat) (a_memberWord : Nat) (a_commonWord : Nat) (a_stripedWord : Nat) (a_greedyWord : Nat) (a_bishopWord : Nat) (a_muffWord : Nat) (a_onWord : Nat) (a_line : Nat) (a_bestLine : Nat) (a_moved : Nat) (a_movedBelow : Nat) (sz : Nat) (x_undos : Int32) (x_length : Int32) (x_seenMany : Int32) (x_first : Int32) (x_behind : Int32) (x_readFacts : Int32) (x_readMembers : Int32) (x_readLeeches : Int32) (x_clauses : Int32) (x_doing : Int32) (x_hasNow : Int32) (x_knowsNow : Int32) (x_isOff : Int32) (x_row : Nat → Int32) (v1 : Int32) (v2 : Int32) (n : Nat) (r_ret : Int32) (h : fX8_lost n x_row v1 v2 = some (r_ret)) : Met l yX8_lost wsX8_lost ({ frames := 1, cells := 0, slots := 0, locals := 21 } : Room) (xPc D (xT c) sz [.ref a_this, .int v1, .int v2] (wX8_lost c a_this a_row a_isKept a_text a_seenMember a_seenMinutes a_seenFact a_seenKnew a_sizes a_sorts a_places a_belows a_clubWord a_factWord a_memberWord a_commonWord a_stripedWord a_greedyWord a_bishopWord a_muffWord a_onWord a_line a_bestLine a_moved a_movedBelow x_undos x_length x_seenMany x_first x_behind x_readFacts x_readMembers x_readLeeches x_clauses x_doing x_hasNow x_knowsNow x_isOff x_row) (fun _ => True)) (xQi D (xT c) (va_A (wX8_lost c a_this a_row a_isKept a_text a_seenMember a_seenMinutes a_seenFact a_seenKnew a_sizes a_sorts a_places a_belows a_clubWord a_factWord a_memberWord a_commonWord a_stripedWord a_greedyWord a_bishopWord a_muffWord a_onWord a_line a_bestLine a_moved a_movedBelow x_undos x_length x_seenMany x_first x_behind x_readFacts x_readMembers x_readLeeches x_clauses x_doing x_hasNow x_knowsNow x_isOff x_row) sz) r_ret (wX8_lost c a_this a_row a_isKept a_text a_seenMember a_seenMinutes a_seenFact a_seenKnew a_sizes a_sorts a_places a_belows a_clubWord a_factWord a_memberWord a_commonWord a_stripedWord a_greedyWord a_bishopWord a_muffWord a_onWord a_line a_bestLine a_moved a_movedBelow x_undos x_length x_seenMany x_first x_behind x_readFacts x_readMembers x_readLeeches x_clauses x_doing x_hasNow x_knowsNow x_isOff x_row)) 0 0 (va_A (wX8_lost c a_this a_row a_isKept a_text a_seenMember a_seenMinutes a_seenFact a_seenKnew a_sizes a_sorts a_places a_belows a_clubWord a_factWord a_memberWord a_commonWord a_stripedWord a_greedyWord a_bishopWord a_muffWord a_onWord a_line a_bestLine a_moved a_movedBelow x_undos x_length x_seenMany x_first x_behind x_readFacts x_readMembers x_readLeeches x_clauses x_doing x_hasNow x_knowsNow x_isOff x_row) sz) := by
  refine Met.ofW (cc := cX8_lost) (maxL := 5) (ret := (some .int)) (by decide) rfl ?_
  intro p e s m args below meth cd s₁ B hml hv
  obtain ⟨rfl, hsz, hP, hK, hD0, hV⟩ := hv
  subst hsz
  have hl := lv_entry [.ref a_this, .int v1, .int v2] (n := 5) (Nat.le_of_ble_eq_true rfl)
  rw [lg_entry_eq]
  exact kX8_lost_0 (A := va_A (wX8_lost c a_this a_row a_isKept a_text a_seenMember a_seenMinutes a_seenFact a_seenKnew a_sizes a_sorts a_places a_belows a_clubWord a_factWord a_memberWord a_commonWord a_stripedWord a_greedyWord a_bishopWord a_muffWord a_onWord a_line a_bestLine a_moved a_movedBelow x_undos x_length x_seenMany x_first x_behind x_readFacts x_readMembers x_readLeeches x_clauses x_doing x_hasNow x_knowsNow x_isOff x_row) s.heap.size) ⟨B.exec, B.bytes, hml, B.returns, findClass_of_methodNamed B.named, atoms_spec (ws := wsX8_lost) B.pre, B.notSynchronized, fun q h => Or.inr h, hK⟩ a_this a_row a_isKept a_text a_seenMember a_seenMinutes a_seenFact a_seenKnew a_sizes a_sorts a_places a_belows a_clubWord a_factWord a_memberWord a_commonWord a_stripedWord a_greedyWord a_bishopWord a_muffWord a_onWord a_line a_bestLine a_moved a_movedBelow x_undos x_length x_seenMany x_first x_behind x_readFacts x_readMembers x_readLeeches x_clauses x_doing x_hasNow x_knowsNow x_isOff x_row n r_ret v1 v2 h s.heap [] _ hP hD0.self va_S.rf hl

abbrev wX8_nextFact (c : Nat → ClassId) : va_W := []
def GX8_nextFact (p : Program) (l : Launch) (e : Env) (s : State) (m : MethodId) (args : Array Value) (below : List Frame) (meth : Method) (cd : Code) (D : va_G) (c : Nat → ClassId) (A : Nat → Prop) (r_ret : Int32) (pc : Nat) (st : List Value) (loc : List (Nat × Value)) : Prop :=
  ∀ (H : Heap) (locs : List Loc) (ls : Array Slot), va_P D vwCl (wX8_nextFact c) H → va_D A (wX8_nextFact c) → va_S A s.heap H locs → lv_has ls 3 loc → W p l e ({ frames := 1, cells := 0, slots := 0, locals := 21 } : Room) s m args below meth cd H locs 0 0 (MQ below (xQi D (xT c) A r_ret (wX8_nextFact c)) args s 0 0 A) (F0 m pc ls st)
set_option maxHeartbeats 4000000 in
set_option maxRecDepth 100000 in
theorem kX8_nextFact_29 {p : Program} {l : Launch} {e : Env} {s : State} {m : MethodId} {args : Array Value} {below : List Frame} {meth : Method} {cd : Code} {D : va_G} {c : Nat → ClassId} {A : Nat → Prop} (E0 : xE p s m args meth cd D (xT c) A RX8 cX8_nextFact 3 (some .int) wsX8_nextFact) (n : Nat) (r_ret : Int32) (r_11 : Int32 → Int32 → Int32 → Option (Int32)) (h_11 : ∀ (v0 : Int32) (v1 : Int32) (v2 : Int32), r_11 v0 v1 v2 = some (r_ret) → GX8_nextFact p l e s m args below meth cd D c A r_ret 11 [] [(0, .int v0), (1, .int v1), (2, .int v2)]) (v0 : Int32) (v1 : Int32) (t0 : Int32) (t1 : Int32) (hr : fX8_nextFact_29 n r_11 v0 v1 t0 t1 = some (r_ret)) : GX8_nextFact p l e s m args below meth cd D c A r_ret 29 [.int t1, .int t0] [(0, .int v0), (1, .int v1)] := by
  have E1 := E0
  obtain ⟨hx, hb, hml, hret, hown, hts, hlocks, hA, hK⟩ := E1
  intro H locs ls hP hD hS hl
  unfold fX8_nextFact_29 at hr
  refine lv_iadd hx hb dX8_nextFact_29 ?_
  refine lv_istore_n (lv' := [(2, .int (t0 + t1)), (0, .int v0), (1, .int v1)]) hx hb dX8_nextFact_30 rfl hl (by decide) rfl (fun ls hl => ?_)
  refine lv_goto (tgt := 11) hx hb dX8_nextFact_31 (by decide) ?_
  exact h_11 v0 v1 (t0 + t1) hr H locs ls hP hD hS (lv_sub hl [1, 2, 0] rfl)
set_option maxHeartbeats 4000000 in
set_option maxRecDepth 100000 in
theorem kX8_nextFact_11 {p : Program} {l : Launch} {e : Env} {s : State} {m : MethodId} {args : Array Value} {below : List Frame} {meth : Method} {cd : Code} {D : va_G} {c : Nat → ClassId} {A : Nat → Prop} (E0 : xE p s m args meth cd D (xT c) A RX8 cX8_nextFact 3 (some .int) wsX8_nextFact) (n : Nat) (r_ret : Int32) : ∀ (k : Nat) (v0 : Int32) (v1 : Int32) (v2 : Int32), fX8_nextFact_11 n k v0 v1 v2 = some (r_ret) → GX8_nextFact p l e s m args below meth cd D c A r_ret 11 [] [(0, .int v0), (1, .int v1), (2, .int v2)] := by
  have E1 := E0
  obtain ⟨hx, hb, hml, hret, hown, hts, hlocks, hA, hK⟩ := E1
  intro k
  induction k with
  | zero => intro v0 v1 v2 hr; cases hr
  | succ k h_11 =>
    intro v0 v1 v2 hr H locs ls hP hD hS hl
    unfold fX8_nextFact_11 at hr
    refine lv_iload_n hx hb dX8_nextFact_11 rfl (lv_at hl 0 rfl) ?_
    refine lv_iload_n hx hb dX8_nextFact_12 rfl (lv_at hl 2 rfl) ?_
    obtain ⟨q1_0, hc1, hr⟩ := x_bind hr
    refine x_runi (wr := []) (wf := []) (x_goS (As := [.int v0, .int v2]) (rest := []) ⟨hx, hb, hml, hown, hts⟩ (mX8_has l D c H.size v0 v2 n _ hc1) (va_cwS 2 hts gX8_nextFact_X8_has rfl rfl rfl (by decide +kernel) ⟨Nat.le_of_ble_eq_true rfl, Nat.le_of_ble_eq_true rfl⟩) xB_t hP hD hK [] rfl (by decide) (fun _ _ _ => trivial) rfl hl.1 rfl (Nat.le_of_ble_eq_true rfl) dX8_nextFact_13) hP hD hS hA [] [] [] rfl rfl rfl ⟨by decide, by decide, by decide⟩ (fun H locs hP hD hS => ?_)
    refine lv_if_ne (tgt := 34) hx hb dX8_nextFact_16 (by decide) (fun c_2 => ?_) (fun c_2 => ?_)
    · have hr := x_iff hr c_2
      refine lv_iload_n hx hb dX8_nextFact_34 rfl (lv_at hl 2 rfl) ?_
      have e0 := x_some hr
      subst e0
      exact x_reti hx hb hret hlocks hP hD hK hS dX8_nextFact_35
    · have hr := x_ift hr c_2
      refine lv_iload_n hx hb dX8_nextFact_19 rfl (lv_at hl 2 rfl) ?_
      refine lv_iload_n hx hb dX8_nextFact_20 rfl (lv_at hl 1 rfl) ?_
      refine lv_if_eq (tgt := 28) hx hb dX8_nextFact_21 (by decide) (fun c_3 => ?_) (fun c_3 => ?_)
      · have hr := x_ift hr c_3
        refine lv_iconst (v := (-1)) hx hb dX8_nextFact_28 (by decide) ?_
        exact kX8_nextFact_29 E0 n r_ret (fX8_nextFact_11 n k) h_11 v0 v1 v2 (-1) hr H locs ls hP hD hS (lv_sub hl [0, 1] rfl)
      · have hr := x_iff hr c_3
        refine lv_iconst (v := 1) hx hb dX8_nextFact_24 (by decide) ?_
        refine lv_goto (tgt := 29) hx hb dX8_nextFact_25 (by decide) ?_
        exact kX8_nextFact_29 E0 n r_ret (fX8_nextFact_11 n k) h_11 v0 v1 v2 1 hr H locs ls hP hD hS (lv_sub hl [0, 1] rfl)
set_option maxHeartbeats 4000000 in
set_option maxRecDepth 100000 in
theorem kX8_nextFact_10 {p : Program} {l : Launch} {e : Env} {s : State} {m : MethodId} {args : Array Value} {below : List Frame} {meth : Method} {cd : Code} {D : va_G} {c : Nat → ClassId} {A : Nat → Prop} (E0 : xE p s m args meth cd D (xT c) A RX8 cX8_nextFact 3 (some .int) wsX8_nextFact) (n : Nat) (r_ret : Int32) (v0 : Int32) (v1 : Int32) (t0 : Int32) (hr : fX8_nextFact_10 n v0 v1 t0 = some (r_ret)) : GX8_nextFact p l e s m args below meth cd D c A r_ret 10 [.int t0] [(0, .int v0), (1, .int v1)] := by
  have E1 := E0
  obtain ⟨hx, hb, hml, hret, hown, hts, hlocks, hA, hK⟩ := E1
  intro H locs ls hP hD hS hl
  unfold fX8_nextFact_10 at hr
  refine lv_istore_n (lv' := [(2, .int t0), (0, .int v0), (1, .int v1)]) hx hb dX8_nextFact_10 rfl hl (by decide) rfl (fun ls hl => ?_)
  exact kX8_nextFact_11 E0 n r_ret n v0 v1 t0 hr H locs ls hP hD hS (lv_sub hl [1, 2, 0] rfl)
set_option maxHeartbeats 4000000 in
set_option maxRecDepth 100000 in
theorem kX8_nextFact_0 {p : Program} {l : Launch} {e : Env} {s : State} {m : MethodId} {args : Array Value} {below : List Frame} {meth : Method} {cd : Code} {D : va_G} {c : Nat → ClassId} {A : Nat → Prop} (E0 : xE p s m args meth cd D (xT c) A RX8 cX8_nextFact 3 (some .int) wsX8_nextFact) (n : Nat) (r_ret : Int32) (v0 : Int32) (v1 : Int32) (hr : fX8_nextFact n v0 v1 = some (r_ret)) : GX8_nextFact p l e s m args below meth cd D c A r_ret 0 [] [(0, .int v0), (1, .int v1)] := by
  have E1 := E0
  obtain ⟨hx, hb, hml, hret, hown, hts, hlocks, hA, hK⟩ := E1
  intro H locs ls hP hD hS hl
  unfold fX8_nextFact at hr
  refine lv_iload_n hx hb dX8_nextFact_0 rfl (lv_at hl 1 rfl) ?_
  refine lv_if_eq (tgt := 8) hx hb dX8_nextFact_1 (by decide) (fun c_1 => ?_) (fun c_1 => ?_)
  · have hr := x_ift hr c_1
    refine lv_bipush (v := 11) hx hb dX8_nextFact_8 (by decide) ?_
    exact kX8_nextFact_10 E0 n r_ret v0 v1 11 hr H locs ls hP hD hS (lv_sub hl [0, 1] rfl)
  · have hr := x_iff hr c_1
    refine lv_iconst (v := 0) hx hb dX8_nextFact_4 (by decide) ?_
    refine lv_goto (tgt := 10) hx hb dX8_nextFact_5 (by decide) ?_
    exact kX8_nextFact_10 E0 n r_ret v0 v1 0 hr H locs ls hP hD hS (lv_sub hl [0, 1] rfl)
set_option maxHeartbeats 4000000 in
set_option maxRecDepth 100000 in
theorem mX8_nextFact (l : Launch) (D : va_G) (c : Nat → ClassId) (sz : Nat) (v0 : Int32) (v1 : Int32) (n : Nat) (r_ret : Int32) (h : fX8_nextFact n v0 v1 = some (r_ret)) : Met l yX8_nextFact wsX8_nextFact ({ frames := 1, cells := 0, slots := 0, locals := 21 } : Room) (xPc D (xT c) sz [.int v0, .int v1] (wX8_nextFact c) (fun _ => True)) (xQi D (xT c) (va_A (wX8_nextFact c) sz) r_ret (wX8_nextFact c)) 0 0 (va_A (wX8_nextFact c) sz) := by
  refine Met.ofW (cc := cX8_nextFact) (maxL := 3) (ret := (some .int)) (by decide) rfl ?_
  intro p e s m args below meth cd s₁ B hml hv
  obtain ⟨rfl, hsz, hP, hK, hD0, hV⟩ := hv
  subst hsz
  have hl := lv_entry [.int v0, .int v1] (n := 3) (Nat.le_of_ble_eq_true rfl)
  rw [lg_entry_eq]
  exact kX8_nextFact_0 (A := va_A (wX8_nextFact c) s.heap.size) ⟨B.exec, B.bytes, hml, B.returns, findClass_of_methodNamed B.named, atoms_spec (ws := wsX8_nextFact) B.pre, B.notSynchronized, fun q h => Or.inr h, hK⟩ n r_ret v0 v1 h s.heap [] _ hP hD0.self va_S.rf hl

