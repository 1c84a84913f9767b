abbrev wX8_reckon (c : Nat → ClassId) (a_this : Nat) (a_row : Nat) (a_isKept : Nat) (a_text : Nat) (a_seenMember : Nat) (a_seenMinutes : Nat) (a_seenFact : Nat) (a_seenKnew : Nat) (a_sizes : Nat) (a_sorts : Nat) (a_places : Nat) (a_belows : Nat) (a_clubWord : Nat) (a_factWord : Nat) (a_memberWord : Nat) (a_commonWord : Nat) (a_stripedWord : Nat) (a_greedyWord : Nat) (a_bishopWord : Nat) (a_muffWord : Nat) (a_onWord : Nat) (a_line : Nat) (a_bestLine : Nat) (a_moved : Nat) (a_movedBelow : Nat) (x_undos : Int32) (x_length : Int32) (x_seenMany : Int32) (x_first : Int32) (x_behind : Int32) (x_readFacts : Int32) (x_readMembers : Int32) (x_readLeeches : Int32) (x_clauses : Int32) (x_doing : Int32) (x_hasNow : Int32) (x_knowsNow : Int32) (x_isOff : Int32) (x_sizes : Nat → Int32) (x_sorts : Nat → Int32) (x_places : Nat → Int64) (x_belows : Nat → Int32) : va_W := [(a_this, .inr (8, [.ref a_row, .int x_undos, .ref a_isKept, .ref a_text, .int x_length, .int x_seenMany, .ref a_seenMember, .ref a_seenMinutes, .ref a_seenFact, .ref a_seenKnew, .ref a_sizes, .ref a_sorts, .ref a_places, .ref a_belows, .int x_first, .int x_behind, .int x_readFacts, .int x_readMembers, .int x_readLeeches, .int x_clauses, .int x_doing, .ref a_clubWord, .ref a_factWord, .ref a_memberWord, .ref a_commonWord, .ref a_stripedWord, .ref a_greedyWord, .ref a_bishopWord, .ref a_muffWord, .ref a_onWord, .int x_hasNow, .int x_knowsNow, .int x_isOff, .ref a_line, .ref a_bestLine, .ref a_moved, .ref a_movedBelow])), (a_sizes, .inl (c 0, 4, .inl x_sizes)), (a_sorts, .inl (c 0, 4, .inl x_sorts)), (a_places, .inl (c 1, 40, .inr (.inl x_places))), (a_belows, .inl (c 0, 40, .inl x_belows))]
def GX8_reckon (p : Program) (l : Launch) (e : Env) (s : State) (m : MethodId) (args : Array Value) (below : List Frame) (meth : Method) (cd : Code) (D : va_G) (c : Nat → ClassId) (A : Nat → Prop) (a_this : Nat) (a_row : Nat) (a_isKept : Nat) (a_text : Nat) (a_seenMember : Nat) (a_seenMinutes : Nat) (a_seenFact : Nat) (a_seenKnew : Nat) (a_sizes : Nat) (a_sorts : Nat) (a_places : Nat) (a_belows : Nat) (a_clubWord : Nat) (a_factWord : Nat) (a_memberWord : Nat) (a_commonWord : Nat) (a_stripedWord : Nat) (a_greedyWord : Nat) (a_bishopWord : Nat) (a_muffWord : Nat) (a_onWord : Nat) (a_line : Nat) (a_bestLine : Nat) (a_moved : Nat) (a_movedBelow : Nat) (x_undos : Int32) (x_length : Int32) (x_seenMany : Int32) (x_first : Int32) (x_behind : Int32) (x_readFacts : Int32) (x_readMembers : Int32) (x_readLeeches : Int32) (x_clauses : Int32) (x_doing : Int32) (x_hasNow : Int32) (x_knowsNow : Int32) (x_isOff : Int32) (x_sizes : Nat → Int32) (x_sorts : Nat → Int32) (r_ret : Int32) (rm_places : Nat → Int64) (rm_belows : Nat → Int32) (pc : Nat) (st : List Value) (loc : List (Nat × Value)) (x_places : Nat → Int64) (x_belows : Nat → Int32) : Prop :=
  ∀ (H : Heap) (locs : List Loc) (ls : Array Slot), va_P D vwCl (wX8_reckon c a_this a_row a_isKept a_text a_seenMember a_seenMinutes a_seenFact a_seenKnew a_sizes a_sorts a_places a_belows a_clubWord a_factWord a_memberWord a_commonWord a_stripedWord a_greedyWord a_bishopWord a_muffWord a_onWord a_line a_bestLine a_moved a_movedBelow x_undos x_length x_seenMany x_first x_behind x_readFacts x_readMembers x_readLeeches x_clauses x_doing x_hasNow x_knowsNow x_isOff x_sizes x_sorts x_places x_belows) H → va_D A (wX8_reckon c a_this a_row a_isKept a_text a_seenMember a_seenMinutes a_seenFact a_seenKnew a_sizes a_sorts a_places a_belows a_clubWord a_factWord a_memberWord a_commonWord a_stripedWord a_greedyWord a_bishopWord a_muffWord a_onWord a_line a_bestLine a_moved a_movedBelow x_undos x_length x_seenMany x_first x_behind x_readFacts x_readMembers x_readLeeches x_clauses x_doing x_hasNow x_knowsNow x_isOff x_sizes x_sorts x_places x_belows) → va_S A s.heap H locs → lv_has ls 23 loc → W p l e ({ frames := 2, cells := 0, slots := 0, locals := 55 } : Room) s m args below meth cd H locs 0 0 (MQ below (xQi D (xT c) A r_ret (wX8_reckon c a_this a_row a_isKept a_text a_seenMember a_seenMinutes a_seenFact a_seenKnew a_sizes a_sorts a_places a_belows a_clubWord a_factWord a_memberWord a_commonWord a_stripedWord a_greedyWord a_bishopWord a_muffWord a_onWord a_line a_bestLine a_moved a_movedBelow x_undos x_length x_seenMany x_first x_behind x_readFacts x_readMembers x_readLeeches x_clauses x_doing x_hasNow x_knowsNow x_isOff x_sizes x_sorts rm_places rm_belows)) args s 0 0 A) (F0 m pc ls st)
theorem lkX8_reckon_J294 : Cond.constantLong RX8 294 2 ∈ wsX8_reckon := by decide +kernel
theorem lkX8_reckon_J296 : Cond.constantLong RX8 296 (-1000000) ∈ wsX8_reckon := by decide +kernel
theorem lkX8_reckon_J298 : Cond.constantLong RX8 298 1000000 ∈ wsX8_reckon := by decide +kernel
theorem lkX8_reckon_f38 : Cond.fieldLink RX8 38 "LeechClubModel" "places" "[J" ∈ wsX8_reckon := by decide +kernel
theorem lkX8_reckon_f42 : Cond.fieldLink RX8 42 "LeechClubModel" "belows" "[I" ∈ wsX8_reckon := by decide +kernel
theorem inX8_reckon_X8 : ∀ w ∈ wsX80, w ∈ wsX8_reckon := by decide +kernel
set_option maxHeartbeats 4000000 in
set_option maxRecDepth 100000 in
theorem kX8_reckon_152 {p : Program} {l : Launch} {e : Env} {s : State} {m : MethodId} {args : Array Value} {below : List Frame} {meth : Method} {cd : Code} {D : va_G} {c : Nat → ClassId} {A : Nat → Prop} (E0 : xE p s m args meth cd D (xT c) A RX8 cX8_reckon 23 (some .int) wsX8_reckon) (a_this : Nat) (a_row : Nat) (a_isKept : Nat) (a_text : Nat) (a_seenMember : Nat) (a_seenMinutes : Nat) (a_seenFact : Nat) (a_seenKnew : Nat) (a_sizes : Nat) (a_sorts : Nat) (a_places : Nat) (a_belows : Nat) (a_clubWord : Nat) (a_factWord : Nat) (a_memberWord : Nat) (a_commonWord : Nat) (a_stripedWord : Nat) (a_greedyWord : Nat) (a_bishopWord : Nat) (a_muffWord : Nat) (a_onWord : Nat) (a_line : Nat) (a_bestLine : Nat) (a_moved : Nat) (a_movedBelow : Nat) (x_undos : Int32) (x_length : Int32) (x_seenMany : Int32) (x_first : Int32) (x_behind : Int32) (x_readFacts : Int32) (x_readMembers : Int32) (x_readLeeches : Int32) (x_clauses : Int32) (x_doing : Int32) (x_hasNow : Int32) (x_knowsNow : Int32) (x_isOff : Int32) (x_sizes : Nat → Int32) (x_sorts : Nat → Int32) (n : Nat) (r_ret : Int32) (rm_places : Nat → Int64) (rm_belows : Nat → Int32) (x_places : Nat → Int64) (x_belows : Nat → Int32) (hr : fX8_reckon_152 n x_sizes x_sorts x_places x_belows = some (r_ret, rm_places, rm_belows)) : GX8_reckon p l e s m args below meth cd D c A a_this a_row a_isKept a_text a_seenMember a_seenMinutes a_seenFact a_seenKnew a_sizes a_sorts a_places a_belows a_clubWord a_factWord a_memberWord a_commonWord a_stripedWord a_greedyWord a_bishopWord a_muffWord a_onWord a_line a_bestLine a_moved a_movedBelow x_undos x_length x_seenMany x_first x_behind x_readFacts x_readMembers x_readLeeches x_clauses x_doing x_hasNow x_knowsNow x_isOff x_sizes x_sorts r_ret rm_places rm_belows 152 [] [] x_places x_belows := by
  have E1 := E0
  obtain ⟨hx, hb, hml, hret, hown, hts, hlocks, hA, hK⟩ := E1
  intro H locs ls hP hD hS hl
  unfold fX8_reckon_152 at hr
  refine lv_bipush (v := (-15)) hx hb dX8_reckon_152 (by decide) ?_
  have g0 := x_some hr
  have e0 := x_p1 g0
  have g1 := x_p2 g0
  have e1 := x_p1 g1
  have e2 := x_p2 g1
  subst e0
  subst e1
  subst e2
  exact x_reti hx hb hret hlocks hP hD hK hS dX8_reckon_154
set_option maxHeartbeats 4000000 in
set_option maxRecDepth 100000 in
theorem kX8_reckon_282 {p : Program} {l : Launch} {e : Env} {s : State} {m : MethodId} {args : Array Value} {below : List Frame} {meth : Method} {cd : Code} {D : va_G} {c : Nat → ClassId} {A : Nat → Prop} (E0 : xE p s m args meth cd D (xT c) A RX8 cX8_reckon 23 (some .int) wsX8_reckon) (a_this : Nat) (a_row : Nat) (a_isKept : Nat) (a_text : Nat) (a_seenMember : Nat) (a_seenMinutes : Nat) (a_seenFact : Nat) (a_seenKnew : Nat) (a_sizes : Nat) (a_sorts : Nat) (a_places : Nat) (a_belows : Nat) (a_clubWord : Nat) (a_factWord : Nat) (a_memberWord : Nat) (a_commonWord : Nat) (a_stripedWord : Nat) (a_greedyWord : Nat) (a_bishopWord : Nat) (a_muffWord : Nat) (a_onWord : Nat) (a_line : Nat) (a_bestLine : Nat) (a_moved : Nat) (a_movedBelow : Nat) (x_undos : Int32) (x_length : Int32) (x_seenMany : Int32) (x_first : Int32) (x_behind : Int32) (x_readFacts : Int32) (x_readMembers : Int32) (x_readLeeches : Int32) (x_clauses : Int32) (x_doing : Int32) (x_hasNow : Int32) (x_knowsNow : Int32) (x_isOff : Int32) (x_sizes : Nat → Int32) (x_sorts : Nat → Int32) (n : Nat) (r_ret : Int32) (rm_places : Nat → Int64) (rm_belows : Nat → Int32) (x_places : Nat → Int64) (x_belows : Nat → Int32) (hr : fX8_reckon_282 n x_sizes x_sorts x_places x_belows = some (r_ret, rm_places, rm_belows)) : GX8_reckon p l e s m args below meth cd D c A a_this a_row a_isKept a_text a_seenMember a_seenMinutes a_seenFact a_seenKnew a_sizes a_sorts a_places a_belows a_clubWord a_factWord a_memberWord a_commonWord a_stripedWord a_greedyWord a_bishopWord a_muffWord a_onWord a_line a_bestLine a_moved a_movedBelow x_undos x_length x_seenMany x_first x_behind x_readFacts x_readMembers x_readLeeches x_clauses x_doing x_hasNow x_knowsNow x_isOff x_sizes x_sorts r_ret rm_places rm_belows 282 [] [] x_places x_belows := by
  have E1 := E0
  obtain ⟨hx, hb, hml, hret, hown, hts, hlocks, hA, hK⟩ := E1
  intro H locs ls hP hD hS hl
  unfold fX8_reckon_282 at hr
  refine lv_bipush (v := (-4)) hx hb dX8_reckon_282 (by decide) ?_
  have g0 := x_some hr
  have e0 := x_p1 g0
  have g1 := x_p2 g0
  have e1 := x_p1 g1
  have e2 := x_p2 g1
  subst e0
  subst e1
  subst e2
  exact x_reti hx hb hret hlocks hP hD hK hS dX8_reckon_284
set_option maxHeartbeats 4000000 in
set_option maxRecDepth 100000 in
theorem kX8_reckon_225 {p : Program} {l : Launch} {e : Env} {s : State} {m : MethodId} {args : Array Value} {below : List Frame} {meth : Method} {cd : Code} {D : va_G} {c : Nat → ClassId} {A : Nat → Prop} (E0 : xE p s m args meth cd D (xT c) A RX8 cX8_reckon 23 (some .int) wsX8_reckon) (a_this : Nat) (a_row : Nat) (a_isKept : Nat) (a_text : Nat) (a_seenMember : Nat) (a_seenMinutes : Nat) (a_seenFact : Nat) (a_seenKnew : Nat) (a_sizes : Nat) (a_sorts : Nat) (a_places : Nat) (a_belows : Nat) (a_clubWord : Nat) (a_factWord : Nat) (a_memberWord : Nat) (a_commonWord : Nat) (a_stripedWord : Nat) (a_greedyWord : Nat) (a_bishopWord : Nat) (a_muffWord : Nat) (a_onWord : Nat) (a_line : Nat) (a_bestLine : Nat) (a_moved : Nat) (a_movedBelow : Nat) (x_undos : Int32) (x_length : Int32) (x_seenMany : Int32) (x_first : Int32) (x_behind : Int32) (x_readFacts : Int32) (x_readMembers : Int32) (x_readLeeches : Int32) (x_clauses : Int32) (x_doing : Int32) (x_hasNow : Int32) (x_knowsNow : Int32) (x_isOff : Int32) (x_sizes : Nat → Int32) (x_sorts : Nat → Int32) (n : Nat) (r_ret : Int32) (rm_places : Nat → Int64) (rm_belows : Nat → Int32) : ∀ (k : Nat) (x_places : Nat → Int64) (x_belows : Nat → Int32) (v1 : Int32) (v2 : Int32) (v9 : Int64) (v13 : Int64) (v15 : Int64) (v17 : Int64) (v19 : Int64), fX8_reckon_225 n x_sizes x_sorts k x_places x_belows v1 v2 v9 v13 v15 v17 v19 = some (r_ret, rm_places, rm_belows) → GX8_reckon p l e s m args below meth cd D c A a_this a_row a_isKept a_text a_seenMember a_seenMinutes a_seenFact a_seenKnew a_sizes a_sorts a_places a_belows a_clubWord a_factWord a_memberWord a_commonWord a_stripedWord a_greedyWord a_bishopWord a_muffWord a_onWord a_line a_bestLine a_moved a_movedBelow x_undos x_length x_seenMany x_first x_behind x_readFacts x_readMembers x_readLeeches x_clauses x_doing x_hasNow x_knowsNow x_isOff x_sizes x_sorts r_ret rm_places rm_belows 225 [] [(0, .ref a_this), (1, .int v1), (2, .int v2), (9, .long v9), (13, .long v13), (15, .long v15), (17, .long v17), (19, .long v19)] x_places x_belows := by
  have E1 := E0
  obtain ⟨hx, hb, hml, hret, hown, hts, hlocks, hA, hK⟩ := E1
  intro k
  induction k with
  | zero => intro x_places x_belows v1 v2 v9 v13 v15 v17 v19 hr; cases hr
  | succ k h_225 =>
    intro x_places x_belows v1 v2 v9 v13 v15 v17 v19 hr H locs ls hP hD hS hl
    unfold fX8_reckon_225 at hr
    refine lv_lload hx hb dX8_reckon_225 (lv_at hl 7 rfl) ?_
    refine lv_lconst (v := 0) hx hb dX8_reckon_227 (by decide) ?_
    refine W.lcmp hx hb dX8_reckon_228 ?_
    refine lv_if_eq (tgt := 250) hx hb dX8_reckon_229 (by decide) (fun c_1 => ?_) (fun c_1 => ?_)
    · have hr := x_ift hr c_1
      refine lv_lload hx hb dX8_reckon_250 (lv_at hl 5 rfl) ?_
      refine lv_lload hx hb dX8_reckon_252 (lv_at hl 6 rfl) ?_
      obtain ⟨b_2, hr⟩ := x_chk hr
      refine lv_ldiv hx hb dX8_reckon_254 b_2 ?_
      refine lv_ldc2 hx hb hown (hts _ lkX8_reckon_J296) dX8_reckon_255 ?_
      refine lv_ldc2 hx hb hown (hts _ lkX8_reckon_J298) dX8_reckon_258 ?_
      obtain ⟨q3_0, hc3, hr⟩ := x_bind hr
      refine x_runi (wr := [(a_this, .inr (8, [.ref a_row, .int x_undos, .ref a_isKept, .ref a_text, .int x_length, .int x_seenMany, .ref a_seenMember, .ref a_seenMinutes, .ref a_seenFact, .ref a_seenKnew, .ref a_sizes, .ref a_sorts, .ref a_places, .ref a_belows, .int x_first, .int x_behind, .int x_readFacts, .int x_readMembers, .int x_readLeeches, .int x_clauses, .int x_doing, .ref a_clubWord, .ref a_factWord, .ref a_memberWord, .ref a_commonWord, .ref a_stripedWord, .ref a_greedyWord, .ref a_bishopWord, .ref a_muffWord, .ref a_onWord, .int x_hasNow, .int x_knowsNow, .int x_isOff, .ref a_line, .ref a_bestLine, .ref a_moved, .ref a_movedBelow])), (a_sizes, .inl (c 0, 4, .inl x_sizes)), (a_sorts, .inl (c 0, 4, .inl x_sorts)), (a_places, .inl (c 1, 40, .inr (.inl x_places))), (a_belows, .inl (c 0, 40, .inl x_belows))]) (wf := [(a_this, .inr (8, [.ref a_row, .int x_undos, .ref a_isKept, .ref a_text, .int x_length, .int x_seenMany, .ref a_seenMember, .ref a_seenMinutes, .ref a_seenFact, .ref a_seenKnew, .ref a_sizes, .ref a_sorts, .ref a_places, .ref a_belows, .int x_first, .int x_behind, .int x_readFacts, .int x_readMembers, .int x_readLeeches, .int x_clauses, .int x_doing, .ref a_clubWord, .ref a_factWord, .ref a_memberWord, .ref a_commonWord, .ref a_stripedWord, .ref a_greedyWord, .ref a_bishopWord, .ref a_muffWord, .ref a_onWord, .int x_hasNow, .int x_knowsNow, .int x_isOff, .ref a_line, .ref a_bestLine, .ref a_moved, .ref a_movedBelow])), (a_sizes, .inl (c 0, 4, .inl x_sizes)), (a_sorts, .inl (c 0, 4, .inl x_sorts)), (a_places, .inl (c 1, 40, .inr (.inl x_places))), (a_belows, .inl (c 0, 40, .inl x_belows))]) (x_goS (As := [.long (v15 / v17), .long (-1000000), .long 1000000]) (rest := []) ⟨hx, hb, hml, hown, hts⟩ (mX8_in l D c H.size (v15 / v17) (-1000000) 1000000 n _ hc3) (va_cwS 3 hts gX8_reckon_X8_in rfl rfl rfl (by decide +kernel) ⟨Nat.le_of_ble_eq_true rfl, Nat.le_of_ble_eq_true rfl⟩) xB_t hP hD hK [] rfl (by decide) (fun _ _ _ => trivial) rfl hl.1 rfl (Nat.le_of_ble_eq_true rfl) dX8_reckon_261) hP hD hS hA [] [0, 1, 2, 3, 4] [0, 1, 2, 3, 4] rfl rfl rfl ⟨by decide, by decide, by decide⟩ (fun H locs hP hD hS => ?_)
      refine lv_if_eq (tgt := 282) hx hb dX8_reckon_264 (by decide) (fun c_4 => ?_) (fun c_4 => ?_)
      · have hr := x_ift hr c_4
        exact kX8_reckon_282 E0 a_this a_row a_isKept a_text a_seenMember a_seenMinutes a_seenFact a_seenKnew a_sizes a_sorts a_places a_belows a_clubWord a_factWord a_memberWord a_commonWord a_stripedWord a_greedyWord a_bishopWord a_muffWord a_onWord a_line a_bestLine a_moved a_movedBelow x_undos x_length x_seenMany x_first x_behind x_readFacts x_readMembers x_readLeeches x_clauses x_doing x_hasNow x_knowsNow x_isOff x_sizes x_sorts n r_ret rm_places rm_belows x_places x_belows hr H locs ls hP hD hS (lv_sub hl [] rfl)
      · have hr := x_iff hr c_4
        refine lv_lload hx hb dX8_reckon_267 (lv_at hl 3 rfl) ?_
        refine lv_lload hx hb dX8_reckon_269 (lv_at hl 4 rfl) ?_
        refine lv_lmul hx hb dX8_reckon_271 ?_
        refine lv_lload hx hb dX8_reckon_272 (lv_at hl 6 rfl) ?_
        obtain ⟨b_5, hr⟩ := x_chk hr
        refine lv_ldiv hx hb dX8_reckon_274 b_5 ?_
        refine lv_ldc2 hx hb hown (hts _ lkX8_reckon_J298) dX8_reckon_275 ?_
        refine W.lcmp hx hb dX8_reckon_278 ?_
        refine lv_if_le (tgt := 285) hx hb dX8_reckon_279 (by decide) (fun c_6 => ?_) (fun c_6 => ?_)
        · have hr := x_ift hr c_6
          refine lv_aload_n hx hb dX8_reckon_285 rfl (lv_at hl 0 rfl) ?_
          refine lv_bipush (v := 10) hx hb dX8_reckon_286 (by decide) ?_
          refine lv_iload_n hx hb dX8_reckon_288 rfl (lv_at hl 1 rfl) ?_
          refine lv_imul hx hb dX8_reckon_289 ?_
          refine lv_iload_n hx hb dX8_reckon_290 rfl (lv_at hl 2 rfl) ?_
          refine lv_iadd hx hb dX8_reckon_291 ?_
          refine lv_lload hx hb dX8_reckon_292 (lv_at hl 5 rfl) ?_
          refine lv_lload hx hb dX8_reckon_294 (lv_at hl 6 rfl) ?_
          obtain ⟨b_7, hr⟩ := x_chk hr
          refine lv_ldiv hx hb dX8_reckon_296 b_7 ?_
          refine lv_lload hx hb dX8_reckon_297 (lv_at hl 3 rfl) ?_
          refine lv_lload hx hb dX8_reckon_299 (lv_at hl 4 rfl) ?_
          refine lv_lmul hx hb dX8_reckon_301 ?_
          refine lv_lload hx hb dX8_reckon_302 (lv_at hl 6 rfl) ?_
          obtain ⟨b_8, hr⟩ := x_chk hr
          refine lv_ldiv hx hb dX8_reckon_304 b_8 ?_
          obtain ⟨⟨q9_0, q9_1⟩, hc9, hr⟩ := x_bind hr
          try dsimp only at hr
          refine x_runv (wr := [(a_sizes, .inl (c 0, 4, .inl x_sizes)), (a_sorts, .inl (c 0, 4, .inl x_sorts))]) (wf := [(a_this, .inr (8, [.ref a_row, .int x_undos, .ref a_isKept, .ref a_text, .int x_length, .int x_seenMany, .ref a_seenMember, .ref a_seenMinutes, .ref a_seenFact, .ref a_seenKnew, .ref a_sizes, .ref a_sorts, .ref a_places, .ref a_belows, .int x_first, .int x_behind, .int x_readFacts, .int x_readMembers, .int x_readLeeches, .int x_clauses, .int x_doing, .ref a_clubWord, .ref a_factWord, .ref a_memberWord, .ref a_commonWord, .ref a_stripedWord, .ref a_greedyWord, .ref a_bishopWord, .ref a_muffWord, .ref a_onWord, .int x_hasNow, .int x_knowsNow, .int x_isOff, .ref a_line, .ref a_bestLine, .ref a_moved, .ref a_movedBelow])), (a_sizes, .inl (c 0, 4, .inl x_sizes)), (a_sorts, .inl (c 0, 4, .inl x_sorts)), (a_places, .inl (c 1, 40, .inr (.inl q9_0))), (a_belows, .inl (c 0, 40, .inl q9_1))]) (x_goV (As := [.int ((10 * v1) + v2), .long (v15 / v17), .long ((v9 * v13) / v17)]) (rest := []) ⟨hx, hb, hml, hown, hts⟩ (mX8_layPart l D c a_this a_row a_isKept a_text a_seenMember a_seenMinutes a_seenFact a_seenKnew a_sizes a_sorts a_places a_belows a_clubWord a_factWord a_memberWord a_commonWord a_stripedWord a_greedyWord a_bishopWord a_muffWord a_onWord a_line a_bestLine a_moved a_movedBelow H.size x_undos x_length x_seenMany x_first x_behind x_readFacts x_readMembers x_readLeeches x_clauses x_doing x_hasNow x_knowsNow x_isOff x_places x_belows ((10 * v1) + v2) (v15 / v17) ((v9 * v13) / v17) n _ _ hc9) (cwV 3 hts gX8_reckon_X8_layPart rfl rfl rfl (by decide +kernel) ⟨Nat.le_of_ble_eq_true rfl, Nat.le_of_ble_eq_true rfl⟩) xB_t hP hD hK [0, 3, 4] rfl (by decide) (fun _ _ _ => trivial) 0 8 rfl rfl rfl rfl hl.1 rfl (Nat.le_of_ble_eq_true rfl) dX8_reckon_305) hP hD hS hA [0, 3, 4] [1, 2] [2, 0, 1, 3, 4] rfl rfl rfl ⟨by decide, by decide, by decide⟩ (fun H locs hP hD hS => ?_)
          refine lv_iconst (v := 1) hx hb dX8_reckon_308 (by decide) ?_
          have g0 := x_some hr
          have e0 := x_p1 g0
          have g1 := x_p2 g0
          have e1 := x_p1 g1
          have e2 := x_p2 g1
          subst e0
          subst e1
          subst e2
          exact x_reti hx hb hret hlocks hP hD hK hS dX8_reckon_309
        · have hr := x_iff hr c_6
          exact kX8_reckon_282 E0 a_this a_row a_isKept a_text a_seenMember a_seenMinutes a_seenFact a_seenKnew a_sizes a_sorts a_places a_belows a_clubWord a_factWord a_memberWord a_commonWord a_stripedWord a_greedyWord a_bishopWord a_muffWord a_onWord a_line a_bestLine a_moved a_movedBelow x_undos x_length x_seenMany x_first x_behind x_readFacts x_readMembers x_readLeeches x_clauses x_doing x_hasNow x_knowsNow x_isOff x_sizes x_sorts n r_ret rm_places rm_belows x_places x_belows hr H locs ls hP hD hS (lv_sub hl [] rfl)
    · have hr := x_iff hr c_1
      refine lv_lload hx hb dX8_reckon_232 (lv_at hl 6 rfl) ?_
      refine lv_lload hx hb dX8_reckon_234 (lv_at hl 7 rfl) ?_
      obtain ⟨b_10, hr⟩ := x_chk hr
      refine lv_lrem hx hb dX8_reckon_236 b_10 ?_
      refine lv_lstore (lv' := [(21, .long (v17 - v17 / v19 * v19)), (0, .ref a_this), (1, .int v1), (2, .int v2), (9, .long v9), (13, .long v13), (15, .long v15), (17, .long v17), (19, .long v19)]) hx hb dX8_reckon_237 hl (by decide) rfl (fun ls hl => ?_)
      refine lv_lload hx hb dX8_reckon_239 (lv_at hl 8 rfl) ?_
      refine lv_lstore (lv' := [(17, .long v19), (21, .long (v17 - v17 / v19 * v19)), (0, .ref a_this), (1, .int v1), (2, .int v2), (9, .long v9), (13, .long v13), (15, .long v15), (19, .long v19)]) hx hb dX8_reckon_241 hl (by decide) rfl (fun ls hl => ?_)
      refine lv_lload hx hb dX8_reckon_243 (lv_at hl 1 rfl) ?_
      refine lv_lstore (lv' := [(19, .long (v17 - v17 / v19 * v19)), (17, .long v19), (21, .long (v17 - v17 / v19 * v19)), (0, .ref a_this), (1, .int v1), (2, .int v2), (9, .long v9), (13, .long v13), (15, .long v15)]) hx hb dX8_reckon_245 hl (by decide) rfl (fun ls hl => ?_)
      refine lv_goto (tgt := 225) hx hb dX8_reckon_247 (by decide) ?_
      exact h_225 x_places x_belows v1 v2 v9 v13 v15 v19 (v17 - v17 / v19 * v19) hr H locs ls hP hD hS (lv_sub hl [3, 4, 5, 6, 7, 8, 1, 0] rfl)
set_option maxHeartbeats 4000000 in
set_option maxRecDepth 100000 in
theorem kX8_reckon_216 {p : Program} {l : Launch} {e : Env} {s : State} {m : MethodId} {args : Array Value} {below : List Frame} {meth : Method} {cd : Code} {D : va_G} {c : Nat → ClassId} {A : Nat → Prop} (E0 : xE p s m args meth cd D (xT c) A RX8 cX8_reckon 23 (some .int) wsX8_reckon) (a_this : Nat) (a_row : Nat) (a_isKept : Nat) (a_text : Nat) (a_seenMember : Nat) (a_seenMinutes : Nat) (a_seenFact : Nat) (a_seenKnew : Nat) (a_sizes : Nat) (a_sorts : Nat) (a_places : Nat) (a_belows : Nat) (a_clubWord : Nat) (a_factWord : Nat) (a_memberWord : Nat) (a_commonWord : Nat) (a_stripedWord : Nat) (a_greedyWord : Nat) (a_bishopWord : Nat) (a_muffWord : Nat) (a_onWord : Nat) (a_line : Nat) (a_bestLine : Nat) (a_moved : Nat) (a_movedBelow : Nat) (x_undos : Int32) (x_length : Int32) (x_seenMany : Int32) (x_first : Int32) (x_behind : Int32) (x_readFacts : Int32) (x_readMembers : Int32) (x_readLeeches : Int32) (x_clauses : Int32) (x_doing : Int32) (x_hasNow : Int32) (x_knowsNow : Int32) (x_isOff : Int32) (x_sizes : Nat → Int32) (x_sorts : Nat → Int32) (n : Nat) (r_ret : Int32) (rm_places : Nat → Int64) (rm_belows : Nat → Int32) (x_places : Nat → Int64) (x_belows : Nat → Int32) (v1 : Int32) (v2 : Int32) (v9 : Int64) (v13 : Int64) (v15 : Int64) (t0 : Int64) (hr : fX8_reckon_216 n x_sizes x_sorts x_places x_belows v1 v2 v9 v13 v15 t0 = some (r_ret, rm_places, rm_belows)) : GX8_reckon p l e s m args below meth cd D c A a_this a_row a_isKept a_text a_seenMember a_seenMinutes a_seenFact a_seenKnew a_sizes a_sorts a_places a_belows a_clubWord a_factWord a_memberWord a_commonWord a_stripedWord a_greedyWord a_bishopWord a_muffWord a_onWord a_line a_bestLine a_moved a_movedBelow x_undos x_length x_seenMany x_first x_behind x_readFacts x_readMembers x_readLeeches x_clauses x_doing x_hasNow x_knowsNow x_isOff x_sizes x_sorts r_ret rm_places rm_belows 216 [.long t0] [(0, .ref a_this), (1, .int v1), (2, .int v2), (9, .long v9), (13, .long v13), (15, .long v15)] x_places x_belows := by
  have E1 := E0
  obtain ⟨hx, hb, hml, hret, hown, hts, hlocks, hA, hK⟩ := E1
  intro H locs ls hP hD hS hl
  unfold fX8_reckon_216 at hr
  refine lv_lstore (lv' := [(17, .long t0), (0, .ref a_this), (1, .int v1), (2, .int v2), (9, .long v9), (13, .long v13), (15, .long v15)]) hx hb dX8_reckon_216 hl (by decide) rfl (fun ls hl => ?_)
  refine lv_lload hx hb dX8_reckon_218 (lv_at hl 4 rfl) ?_
  refine lv_lload hx hb dX8_reckon_220 (lv_at hl 5 rfl) ?_
  refine lv_lmul hx hb dX8_reckon_222 ?_
  refine lv_lstore (lv' := [(19, .long (v9 * v13)), (17, .long t0), (0, .ref a_this), (1, .int v1), (2, .int v2), (9, .long v9), (13, .long v13), (15, .long v15)]) hx hb dX8_reckon_223 hl (by decide) rfl (fun ls hl => ?_)
  exact kX8_reckon_225 E0 a_this a_row a_isKept a_text a_seenMember a_seenMinutes a_seenFact a_seenKnew a_sizes a_sorts a_places a_belows a_clubWord a_factWord a_memberWord a_commonWord a_stripedWord a_greedyWord a_bishopWord a_muffWord a_onWord a_line a_bestLine a_moved a_movedBelow x_undos x_length x_seenMany x_first x_behind x_readFacts x_readMembers x_readLeeches x_clauses x_doing x_hasNow x_knowsNow x_isOff x_sizes x_sorts n r_ret rm_places rm_belows n x_places x_belows v1 v2 v9 v13 v15 t0 (v9 * v13) hr H locs ls hP hD hS (lv_sub hl [2, 3, 4, 5, 6, 7, 1, 0] rfl)
set_option maxHeartbeats 4000000 in
set_option maxRecDepth 100000 in
theorem kX8_reckon_199 {p : Program} {l : Launch} {e : Env} {s : State} {m : MethodId} {args : Array Value} {below : List Frame} {meth : Method} {cd : Code} {D : va_G} {c : Nat → ClassId} {A : Nat → Prop} (E0 : xE p s m args meth cd D (xT c) A RX8 cX8_reckon 23 (some .int) wsX8_reckon) (a_this : Nat) (a_row : Nat) (a_isKept : Nat) (a_text : Nat) (a_seenMember : Nat) (a_seenMinutes : Nat) (a_seenFact : Nat) (a_seenKnew : Nat) (a_sizes : Nat) (a_sorts : Nat) (a_places : Nat) (a_belows : Nat) (a_clubWord : Nat) (a_factWord : Nat) (a_memberWord : Nat) (a_commonWord : Nat) (a_stripedWord : Nat) (a_greedyWord : Nat) (a_bishopWord : Nat) (a_muffWord : Nat) (a_onWord : Nat) (a_line : Nat) (a_bestLine : Nat) (a_moved : Nat) (a_movedBelow : Nat) (x_undos : Int32) (x_length : Int32) (x_seenMany : Int32) (x_first : Int32) (x_behind : Int32) (x_readFacts : Int32) (x_readMembers : Int32) (x_readLeeches : Int32) (x_clauses : Int32) (x_doing : Int32) (x_hasNow : Int32) (x_knowsNow : Int32) (x_isOff : Int32) (x_sizes : Nat → Int32) (x_sorts : Nat → Int32) (n : Nat) (r_ret : Int32) (rm_places : Nat → Int64) (rm_belows : Nat → Int32) (x_places : Nat → Int64) (x_belows : Nat → Int32) (v1 : Int32) (v2 : Int32) (v9 : Int64) (v13 : Int64) (t0 : Int64) (hr : fX8_reckon_199 n x_sizes x_sorts x_places x_belows v1 v2 v9 v13 t0 = some (r_ret, rm_places, rm_belows)) : GX8_reckon p l e s m args below meth cd D c A a_this a_row a_isKept a_text a_seenMember a_seenMinutes a_seenFact a_seenKnew a_sizes a_sorts a_places a_belows a_clubWord a_factWord a_memberWord a_commonWord a_stripedWord a_greedyWord a_bishopWord a_muffWord a_onWord a_line a_bestLine a_moved a_movedBelow x_undos x_length x_seenMany x_first x_behind x_readFacts x_readMembers x_readLeeches x_clauses x_doing x_hasNow x_knowsNow x_isOff x_sizes x_sorts r_ret rm_places rm_belows 199 [.long t0] [(0, .ref a_this), (1, .int v1), (2, .int v2), (9, .long v9), (13, .long v13)] x_places x_belows := by
  have E1 := E0
  obtain ⟨hx, hb, hml, hret, hown, hts, hlocks, hA, hK⟩ := E1
  intro H locs ls hP hD hS hl
  unfold fX8_reckon_199 at hr
  refine lv_lstore (lv' := [(15, .long t0), (0, .ref a_this), (1, .int v1), (2, .int v2), (9, .long v9), (13, .long v13)]) hx hb dX8_reckon_199 hl (by decide) rfl (fun ls hl => ?_)
  refine lv_lload hx hb dX8_reckon_201 (lv_at hl 0 rfl) ?_
  refine lv_lconst (v := 0) hx hb dX8_reckon_203 (by decide) ?_
  refine W.lcmp hx hb dX8_reckon_204 ?_
  refine lv_if_ge (tgt := 214) hx hb dX8_reckon_205 (by decide) (fun c_1 => ?_) (fun c_1 => ?_)
  · have hr := x_ift hr c_1
    refine lv_lload hx hb dX8_reckon_214 (lv_at hl 0 rfl) ?_
    exact kX8_reckon_216 E0 a_this a_row a_isKept a_text a_seenMember a_seenMinutes a_seenFact a_seenKnew a_sizes a_sorts a_places a_belows a_clubWord a_factWord a_memberWord a_commonWord a_stripedWord a_greedyWord a_bishopWord a_muffWord a_onWord a_line a_bestLine a_moved a_movedBelow x_undos x_length x_seenMany x_first x_behind x_readFacts x_readMembers x_readLeeches x_clauses x_doing x_hasNow x_knowsNow x_isOff x_sizes x_sorts n r_ret rm_places rm_belows x_places x_belows v1 v2 v9 v13 t0 t0 hr H locs ls hP hD hS (lv_sub hl [1, 2, 3, 4, 5, 0] rfl)
  · have hr := x_iff hr c_1
    refine lv_lload hx hb dX8_reckon_208 (lv_at hl 0 rfl) ?_
    refine lv_lneg hx hb dX8_reckon_210 ?_
    refine lv_goto (tgt := 216) hx hb dX8_reckon_211 (by decide) ?_
    exact kX8_reckon_216 E0 a_this a_row a_isKept a_text a_seenMember a_seenMinutes a_seenFact a_seenKnew a_sizes a_sorts a_places a_belows a_clubWord a_factWord a_memberWord a_commonWord a_stripedWord a_greedyWord a_bishopWord a_muffWord a_onWord a_line a_bestLine a_moved a_movedBelow x_undos x_length x_seenMany x_first x_behind x_readFacts x_readMembers x_readLeeches x_clauses x_doing x_hasNow x_knowsNow x_isOff x_sizes x_sorts n r_ret rm_places rm_belows x_places x_belows v1 v2 v9 v13 t0 (-t0) hr H locs ls hP hD hS (lv_sub hl [1, 2, 3, 4, 5, 0] rfl)
set_option maxHeartbeats 4000000 in
set_option maxRecDepth 100000 in
theorem kX8_reckon_72 {p : Program} {l : Launch} {e : Env} {s : State} {m : MethodId} {args : Array Value} {below : List Frame} {meth : Method} {cd : Code} {D : va_G} {c : Nat → ClassId} {A : Nat → Prop} (E0 : xE p s m args meth cd D (xT c) A RX8 cX8_reckon 23 (some .int) wsX8_reckon) (a_this : Nat) (a_row : Nat) (a_isKept : Nat) (a_text : Nat) (a_seenMember : Nat) (a_seenMinutes : Nat) (a_seenFact : Nat) (a_seenKnew : Nat) (a_sizes : Nat) (a_sorts : Nat) (a_places : Nat) (a_belows : Nat) (a_clubWord : Nat) (a_factWord : Nat) (a_memberWord : Nat) (a_commonWord : Nat) (a_stripedWord : Nat) (a_greedyWord : Nat) (a_bishopWord : Nat) (a_muffWord : Nat) (a_onWord : Nat) (a_line : Nat) (a_bestLine : Nat) (a_moved : Nat) (a_movedBelow : Nat) (x_undos : Int32) (x_length : Int32) (x_seenMany : Int32) (x_first : Int32) (x_behind : Int32) (x_readFacts : Int32) (x_readMembers : Int32) (x_readLeeches : Int32) (x_clauses : Int32) (x_doing : Int32) (x_hasNow : Int32) (x_knowsNow : Int32) (x_isOff : Int32) (x_sizes : Nat → Int32) (x_sorts : Nat → Int32) (n : Nat) (r_ret : Int32) (rm_places : Nat → Int64) (rm_belows : Nat → Int32) (x_places : Nat → Int64) (x_belows : Nat → Int32) (v1 : Int32) (v2 : Int32) (v3 : Int32) (v4 : Int32) (v5 : Int32) (t0 : Int32) (hr : fX8_reckon_72 n x_sizes x_sorts x_places x_belows v1 v2 v3 v4 v5 t0 = some (r_ret, rm_places, rm_belows)) : GX8_reckon p l e s m args below meth cd D c A a_this a_row a_isKept a_text a_seenMember a_seenMinutes a_seenFact a_seenKnew a_sizes a_sorts a_places a_belows a_clubWord a_factWord a_memberWord a_commonWord a_stripedWord a_greedyWord a_bishopWord a_muffWord a_onWord a_line a_bestLine a_moved a_movedBelow x_undos x_length x_seenMany x_first x_behind x_readFacts x_readMembers x_readLeeches x_clauses x_doing x_hasNow x_knowsNow x_isOff x_sizes x_sorts r_ret rm_places rm_belows 72 [.int t0] [(0, .ref a_this), (1, .int v1), (2, .int v2), (3, .int v3), (4, .int v4), (5, .int v5)] x_places x_belows := by
  have E1 := E0
  obtain ⟨hx, hb, hml, hret, hown, hts, hlocks, hA, hK⟩ := E1
  intro H locs ls hP hD hS hl
  unfold fX8_reckon_72 at hr
  refine lv_istore (lv' := [(6, .int t0), (0, .ref a_this), (1, .int v1), (2, .int v2), (3, .int v3), (4, .int v4), (5, .int v5)]) hx hb dX8_reckon_72 hl (by decide) rfl (fun ls hl => ?_)
  refine lv_iload hx hb dX8_reckon_74 (lv_at hl 0 rfl) ?_
  refine lv_if_eq (tgt := 82) hx hb dX8_reckon_76 (by decide) (fun c_1 => ?_) (fun c_1 => ?_)
  · have hr := x_ift hr c_1
    refine lv_aload_n hx hb dX8_reckon_82 rfl (lv_at hl 1 rfl) ?_
    refine va_get (D := D) (ci := 8) (v := .ref a_places) (C := RX8) (T := TX8) (N := 37) hx hb hts inX8_reckon_X8 hown hK hP 0 rfl rfl 12 (by decide) (hts _ lkX8_reckon_f38) (fun _ h9 => h9) rfl dX8_reckon_83 ?_
    refine lv_bipush (v := 10) hx hb dX8_reckon_86 (by decide) ?_
    refine lv_iload_n hx hb dX8_reckon_88 rfl (lv_at hl 2 rfl) ?_
    refine lv_imul hx hb dX8_reckon_89 ?_
    refine lv_iload_n hx hb dX8_reckon_90 rfl (lv_at hl 4 rfl) ?_
    refine lv_iadd hx hb dX8_reckon_91 ?_
    obtain ⟨b_2, hr⟩ := x_chk hr
    refine va_lald hx hb hK hP 3 1 rfl rfl b_2 dX8_reckon_92 ?_
    refine lv_lstore (lv' := [(7, .long (x_places ((10 * v1) + v3).toNatClampNeg)), (6, .int t0), (0, .ref a_this), (1, .int v1), (2, .int v2), (3, .int v3), (4, .int v4), (5, .int v5)]) hx hb dX8_reckon_93 hl (by decide) rfl (fun ls hl => ?_)
    refine lv_aload_n hx hb dX8_reckon_95 rfl (lv_at hl 2 rfl) ?_
    refine va_get (D := D) (ci := 8) (v := .ref a_belows) (C := RX8) (T := TX8) (N := 37) hx hb hts inX8_reckon_X8 hown hK hP 0 rfl rfl 13 (by decide) (hts _ lkX8_reckon_f42) (fun _ h9 => h9) rfl dX8_reckon_96 ?_
    refine lv_bipush (v := 10) hx hb dX8_reckon_99 (by decide) ?_
    refine lv_iload_n hx hb dX8_reckon_101 rfl (lv_at hl 3 rfl) ?_
    refine lv_imul hx hb dX8_reckon_102 ?_
    refine lv_iload_n hx hb dX8_reckon_103 rfl (lv_at hl 5 rfl) ?_
    refine lv_iadd hx hb dX8_reckon_104 ?_
    obtain ⟨b_3, hr⟩ := x_chk hr
    refine va_iald hx hb hK hP 4 0 rfl rfl b_3 dX8_reckon_105 ?_
    refine lv_i2l hx hb dX8_reckon_106 rfl ?_
    refine lv_lstore (lv' := [(9, .long ((x_belows ((10 * v1) + v3).toNatClampNeg).toInt64)), (7, .long (x_places ((10 * v1) + v3).toNatClampNeg)), (6, .int t0), (0, .ref a_this), (1, .int v1), (2, .int v2), (3, .int v3), (4, .int v4), (5, .int v5)]) hx hb dX8_reckon_107 hl (by decide) rfl (fun ls hl => ?_)
    refine lv_aload_n hx hb dX8_reckon_109 rfl (lv_at hl 3 rfl) ?_
    refine va_get (D := D) (ci := 8) (v := .ref a_places) (C := RX8) (T := TX8) (N := 37) hx hb hts inX8_reckon_X8 hown hK hP 0 rfl rfl 12 (by decide) (hts _ lkX8_reckon_f38) (fun _ h9 => h9) rfl dX8_reckon_110 ?_
    refine lv_bipush (v := 10) hx hb dX8_reckon_113 (by decide) ?_
    refine lv_iload_n hx hb dX8_reckon_115 rfl (lv_at hl 4 rfl) ?_
    refine lv_imul hx hb dX8_reckon_116 ?_
    refine lv_iload hx hb dX8_reckon_117 (lv_at hl 7 rfl) ?_
    refine lv_iadd hx hb dX8_reckon_119 ?_
    obtain ⟨b_4, hr⟩ := x_chk hr
    refine va_lald hx hb hK hP 3 1 rfl rfl b_4 dX8_reckon_120 ?_
    refine lv_lstore (lv' := [(11, .long (x_places ((10 * v1) + v4).toNatClampNeg)), (9, .long ((x_belows ((10 * v1) + v3).toNatClampNeg).toInt64)), (7, .long (x_places ((10 * v1) + v3).toNatClampNeg)), (6, .int t0), (0, .ref a_this), (1, .int v1), (2, .int v2), (3, .int v3), (4, .int v4), (5, .int v5)]) hx hb dX8_reckon_121 hl (by decide) rfl (fun ls hl => ?_)
    refine lv_aload_n hx hb dX8_reckon_123 rfl (lv_at hl 4 rfl) ?_
    refine va_get (D := D) (ci := 8) (v := .ref a_belows) (C := RX8) (T := TX8) (N := 37) hx hb hts inX8_reckon_X8 hown hK hP 0 rfl rfl 13 (by decide) (hts _ lkX8_reckon_f42) (fun _ h9 => h9) rfl dX8_reckon_124 ?_
    refine lv_bipush (v := 10) hx hb dX8_reckon_127 (by decide) ?_
    refine lv_iload_n hx hb dX8_reckon_129 rfl (lv_at hl 5 rfl) ?_
    refine lv_imul hx hb dX8_reckon_130 ?_
    refine lv_iload hx hb dX8_reckon_131 (lv_at hl 8 rfl) ?_
    refine lv_iadd hx hb dX8_reckon_133 ?_
    obtain ⟨b_5, hr⟩ := x_chk hr
    refine va_iald hx hb hK hP 4 0 rfl rfl b_5 dX8_reckon_134 ?_
    refine lv_i2l hx hb dX8_reckon_135 rfl ?_
    refine lv_lstore (lv' := [(13, .long ((x_belows ((10 * v1) + v4).toNatClampNeg).toInt64)), (11, .long (x_places ((10 * v1) + v4).toNatClampNeg)), (9, .long ((x_belows ((10 * v1) + v3).toNatClampNeg).toInt64)), (7, .long (x_places ((10 * v1) + v3).toNatClampNeg)), (6, .int t0), (0, .ref a_this), (1, .int v1), (2, .int v2), (3, .int v3), (4, .int v4), (5, .int v5)]) hx hb dX8_reckon_136 hl (by decide) rfl (fun ls hl => ?_)
    refine lv_lload hx hb dX8_reckon_138 (lv_at hl 2 rfl) ?_
    refine lv_lconst (v := 0) hx hb dX8_reckon_140 (by decide) ?_
    refine W.lcmp hx hb dX8_reckon_141 ?_
    refine lv_if_eq (tgt := 152) hx hb dX8_reckon_142 (by decide) (fun c_6 => ?_) (fun c_6 => ?_)
    · have hr := x_ift hr c_6
      exact kX8_reckon_152 E0 a_this a_row a_isKept a_text a_seenMember a_seenMinutes a_seenFact a_seenKnew a_sizes a_sorts a_places a_belows a_clubWord a_factWord a_memberWord a_commonWord a_stripedWord a_greedyWord a_bishopWord a_muffWord a_onWord a_line a_bestLine a_moved a_movedBelow x_undos x_length x_seenMany x_first x_behind x_readFacts x_readMembers x_readLeeches x_clauses x_doing x_hasNow x_knowsNow x_isOff x_sizes x_sorts n r_ret rm_places rm_belows x_places x_belows hr H locs ls hP hD hS (lv_sub hl [] rfl)
    · have hr := x_iff hr c_6
      refine lv_lload hx hb dX8_reckon_145 (lv_at hl 0 rfl) ?_
      refine lv_lconst (v := 0) hx hb dX8_reckon_147 (by decide) ?_
      refine W.lcmp hx hb dX8_reckon_148 ?_
      refine lv_if_ne (tgt := 155) hx hb dX8_reckon_149 (by decide) (fun c_7 => ?_) (fun c_7 => ?_)
      · have hr := x_iff hr c_7
        refine lv_iload hx hb dX8_reckon_155 (lv_at hl 10 rfl) ?_
        refine lv_if_ne (tgt := 174) hx hb dX8_reckon_157 (by decide) (fun c_8 => ?_) (fun c_8 => ?_)
        · have hr := x_iff hr c_8
          refine lv_iload hx hb dX8_reckon_174 (lv_at hl 10 rfl) ?_
          refine lv_iconst (v := 1) hx hb dX8_reckon_176 (by decide) ?_
          refine lv_icmp_ne (tgt := 194) hx hb dX8_reckon_177 (by decide) (fun c_9 => ?_) (fun c_9 => ?_)
          · have hr := x_iff hr c_9
            refine lv_lload hx hb dX8_reckon_194 (lv_at hl 3 rfl) ?_
            refine lv_lload hx hb dX8_reckon_196 (lv_at hl 1 rfl) ?_
            refine lv_lmul hx hb dX8_reckon_198 ?_
            exact kX8_reckon_199 E0 a_this a_row a_isKept a_text a_seenMember a_seenMinutes a_seenFact a_seenKnew a_sizes a_sorts a_places a_belows a_clubWord a_factWord a_memberWord a_commonWord a_stripedWord a_greedyWord a_bishopWord a_muffWord a_onWord a_line a_bestLine a_moved a_movedBelow x_undos x_length x_seenMany x_first x_behind x_readFacts x_readMembers x_readLeeches x_clauses x_doing x_hasNow x_knowsNow x_isOff x_sizes x_sorts n r_ret rm_places rm_belows x_places x_belows v1 v2 ((x_belows ((10 * v1) + v3).toNatClampNeg).toInt64) ((x_belows ((10 * v1) + v4).toNatClampNeg).toInt64) ((x_places ((10 * v1) + v3).toNatClampNeg) * (x_places ((10 * v1) + v4).toNatClampNeg)) hr H locs ls hP hD hS (lv_sub hl [5, 6, 7, 2, 0] rfl)
          · have hr := x_ift hr c_9
            refine lv_lload hx hb dX8_reckon_180 (lv_at hl 3 rfl) ?_
            refine lv_lload hx hb dX8_reckon_182 (lv_at hl 0 rfl) ?_
            refine lv_lmul hx hb dX8_reckon_184 ?_
            refine lv_lload hx hb dX8_reckon_185 (lv_at hl 1 rfl) ?_
            refine lv_lload hx hb dX8_reckon_187 (lv_at hl 2 rfl) ?_
            refine lv_lmul hx hb dX8_reckon_189 ?_
            refine lv_lsub hx hb dX8_reckon_190 ?_
            refine lv_goto (tgt := 199) hx hb dX8_reckon_191 (by decide) ?_
            exact kX8_reckon_199 E0 a_this a_row a_isKept a_text a_seenMember a_seenMinutes a_seenFact a_seenKnew a_sizes a_sorts a_places a_belows a_clubWord a_factWord a_memberWord a_commonWord a_stripedWord a_greedyWord a_bishopWord a_muffWord a_onWord a_line a_bestLine a_moved a_movedBelow x_undos x_length x_seenMany x_first x_behind x_readFacts x_readMembers x_readLeeches x_clauses x_doing x_hasNow x_knowsNow x_isOff x_sizes x_sorts n r_ret rm_places rm_belows x_places x_belows v1 v2 ((x_belows ((10 * v1) + v3).toNatClampNeg).toInt64) ((x_belows ((10 * v1) + v4).toNatClampNeg).toInt64) (((x_places ((10 * v1) + v3).toNatClampNeg) * ((x_belows ((10 * v1) + v4).toNatClampNeg).toInt64)) - ((x_places ((10 * v1) + v4).toNatClampNeg) * ((x_belows ((10 * v1) + v3).toNatClampNeg).toInt64))) hr H locs ls hP hD hS (lv_sub hl [5, 6, 7, 2, 0] rfl)
        · have hr := x_ift hr c_8
          refine lv_lload hx hb dX8_reckon_160 (lv_at hl 3 rfl) ?_
          refine lv_lload hx hb dX8_reckon_162 (lv_at hl 0 rfl) ?_
          refine lv_lmul hx hb dX8_reckon_164 ?_
          refine lv_lload hx hb dX8_reckon_165 (lv_at hl 1 rfl) ?_
          refine lv_lload hx hb dX8_reckon_167 (lv_at hl 2 rfl) ?_
          refine lv_lmul hx hb dX8_reckon_169 ?_
          refine lv_ladd hx hb dX8_reckon_170 ?_
          refine lv_goto (tgt := 199) hx hb dX8_reckon_171 (by decide) ?_
          exact kX8_reckon_199 E0 a_this a_row a_isKept a_text a_seenMember a_seenMinutes a_seenFact a_seenKnew a_sizes a_sorts a_places a_belows a_clubWord a_factWord a_memberWord a_commonWord a_stripedWord a_greedyWord a_bishopWord a_muffWord a_onWord a_line a_bestLine a_moved a_movedBelow x_undos x_length x_seenMany x_first x_behind x_readFacts x_readMembers x_readLeeches x_clauses x_doing x_hasNow x_knowsNow x_isOff x_sizes x_sorts n r_ret rm_places rm_belows x_places x_belows v1 v2 ((x_belows ((10 * v1) + v3).toNatClampNeg).toInt64) ((x_belows ((10 * v1) + v4).toNatClampNeg).toInt64) (((x_places ((10 * v1) + v3).toNatClampNeg) * ((x_belows ((10 * v1) + v4).toNatClampNeg).toInt64)) + ((x_places ((10 * v1) + v4).toNatClampNeg) * ((x_belows ((10 * v1) + v3).toNatClampNeg).toInt64))) hr H locs ls hP hD hS (lv_sub hl [5, 6, 7, 2, 0] rfl)
      · have hr := x_ift hr c_7
        exact kX8_reckon_152 E0 a_this a_row a_isKept a_text a_seenMember a_seenMinutes a_seenFact a_seenKnew a_sizes a_sorts a_places a_belows a_clubWord a_factWord a_memberWord a_commonWord a_stripedWord a_greedyWord a_bishopWord a_muffWord a_onWord a_line a_bestLine a_moved a_movedBelow x_undos x_length x_seenMany x_first x_behind x_readFacts x_readMembers x_readLeeches x_clauses x_doing x_hasNow x_knowsNow x_isOff x_sizes x_sorts n r_ret rm_places rm_belows x_places x_belows hr H locs ls hP hD hS (lv_sub hl [] rfl)
  · have hr := x_iff hr c_1
    refine lv_iload hx hb dX8_reckon_79 (lv_at hl 0 rfl) ?_
    have g0 := x_some hr
    have e0 := x_p1 g0
    have g1 := x_p2 g0
    have e1 := x_p1 g1
    have e2 := x_p2 g1
    subst e0
    subst e1
    subst e2
    exact x_reti hx hb hret hlocks hP hD hK hS dX8_reckon_81
set_option maxHeartbeats 4000000 in
set_option maxRecDepth 100000 in
theorem kX8_reckon_53 {p : Program} {l : Launch} {e : Env} {s : State} {m : MethodId} {args : Array Value} {below : List Frame} {meth : Method} {cd : Code} {D : va_G} {c : Nat → ClassId} {A : Nat → Prop} (E0 : xE p s m args meth cd D (xT c) A RX8 cX8_reckon 23 (some .int) wsX8_reckon) (a_this : Nat) (a_row : Nat) (a_isKept : Nat) (a_text : Nat) (a_seenMember : Nat) (a_seenMinutes : Nat) (a_seenFact : Nat) (a_seenKnew : Nat) (a_sizes : Nat) (a_sorts : Nat) (a_places : Nat) (a_belows : Nat) (a_clubWord : Nat) (a_factWord : Nat) (a_memberWord : Nat) (a_commonWord : Nat) (a_stripedWord : Nat) (a_greedyWord : Nat) (a_bishopWord : Nat) (a_muffWord : Nat) (a_onWord : Nat) (a_line : Nat) (a_bestLine : Nat) (a_moved : Nat) (a_movedBelow : Nat) (x_undos : Int32) (x_length : Int32) (x_seenMany : Int32) (x_first : Int32) (x_behind : Int32) (x_readFacts : Int32) (x_readMembers : Int32) (x_readLeeches : Int32) (x_clauses : Int32) (x_doing : Int32) (x_hasNow : Int32) (x_knowsNow : Int32) (x_isOff : Int32) (x_sizes : Nat → Int32) (x_sorts : Nat → Int32) (n : Nat) (r_ret : Int32) (rm_places : Nat → Int64) (rm_belows : Nat → Int32) (x_places : Nat → Int64) (x_belows : Nat → Int32) (v1 : Int32) (v2 : Int32) (v3 : Int32) (v4 : Int32) (v5 : Int32) (t0 : Int32) (hr : fX8_reckon_53 n x_sizes x_sorts x_places x_belows v1 v2 v3 v4 v5 t0 = some (r_ret, rm_places, rm_belows)) : GX8_reckon p l e s m args below meth cd D c A a_this a_row a_isKept a_text a_seenMember a_seenMinutes a_seenFact a_seenKnew a_sizes a_sorts a_places a_belows a_clubWord a_factWord a_memberWord a_commonWord a_stripedWord a_greedyWord a_bishopWord a_muffWord a_onWord a_line a_bestLine a_moved a_movedBelow x_undos x_length x_seenMany x_first x_behind x_readFacts x_readMembers x_readLeeches x_clauses x_doing x_hasNow x_knowsNow x_isOff x_sizes x_sorts r_ret rm_places rm_belows 53 [.int t0] [(0, .ref a_this), (1, .int v1), (2, .int v2), (3, .int v3), (4, .int v4), (5, .int v5)] x_places x_belows := by
  have E1 := E0
  obtain ⟨hx, hb, hml, hret, hown, hts, hlocks, hA, hK⟩ := E1
  intro H locs ls hP hD hS hl
  unfold fX8_reckon_53 at hr
  refine lv_istore (lv' := [(6, .int t0), (0, .ref a_this), (1, .int v1), (2, .int v2), (3, .int v3), (4, .int v4), (5, .int v5)]) hx hb dX8_reckon_53 hl (by decide) rfl (fun ls hl => ?_)
  refine lv_iload hx hb dX8_reckon_55 (lv_at hl 0 rfl) ?_
  refine lv_if_eq (tgt := 65) hx hb dX8_reckon_57 (by decide) (fun c_1 => ?_) (fun c_1 => ?_)
  · have hr := x_ift hr c_1
    refine lv_aload_n hx hb dX8_reckon_65 rfl (lv_at hl 1 rfl) ?_
    refine lv_iload_n hx hb dX8_reckon_66 rfl (lv_at hl 2 rfl) ?_
    refine lv_iconst (v := 2) hx hb dX8_reckon_67 (by decide) ?_
    refine lv_iload_n hx hb dX8_reckon_68 rfl (lv_at hl 3 rfl) ?_
    obtain ⟨q2_0, hc2, hr⟩ := x_bind hr
    refine x_runi (wr := [(a_places, .inl (c 1, 40, .inr (.inl x_places))), (a_belows, .inl (c 0, 40, .inl x_belows))]) (wf := [(a_this, .inr (8, [.ref a_row, .int x_undos, .ref a_isKept, .ref a_text, .int x_length, .int x_seenMany, .ref a_seenMember, .ref a_seenMinutes, .ref a_seenFact, .ref a_seenKnew, .ref a_sizes, .ref a_sorts, .ref a_places, .ref a_belows, .int x_first, .int x_behind, .int x_readFacts, .int x_readMembers, .int x_readLeeches, .int x_clauses, .int x_doing, .ref a_clubWord, .ref a_factWord, .ref a_memberWord, .ref a_commonWord, .ref a_stripedWord, .ref a_greedyWord, .ref a_bishopWord, .ref a_muffWord, .ref a_onWord, .int x_hasNow, .int x_knowsNow, .int x_isOff, .ref a_line, .ref a_bestLine, .ref a_moved, .ref a_movedBelow])), (a_sizes, .inl (c 0, 4, .inl x_sizes)), (a_sorts, .inl (c 0, 4, .inl x_sorts)), (a_places, .inl (c 1, 40, .inr (.inl x_places))), (a_belows, .inl (c 0, 40, .inl x_belows))]) (x_goV (As := [.int v1, .int 2, .int v2]) (rest := []) ⟨hx, hb, hml, hown, hts⟩ (mX8_noPlace l D c a_this a_row a_isKept a_text a_seenMember a_seenMinutes a_seenFact a_seenKnew a_sizes a_sorts a_places a_belows a_clubWord a_factWord a_memberWord a_commonWord a_stripedWord a_greedyWord a_bishopWord a_muffWord a_onWord a_line a_bestLine a_moved a_movedBelow H.size x_undos x_length x_seenMany x_first x_behind x_readFacts x_readMembers x_readLeeches x_clauses x_doing x_hasNow x_knowsNow x_isOff x_sizes x_sorts v1 2 v2 n _ hc2) (cwV 3 hts gX8_reckon_X8_noPlace rfl rfl rfl (by decide +kernel) ⟨Nat.le_of_ble_eq_true rfl, Nat.le_of_ble_eq_true rfl⟩) xB_t hP hD hK [0, 1, 2] rfl (by decide) (fun _ _ _ => trivial) 0 8 rfl rfl rfl rfl hl.1 rfl (Nat.le_of_ble_eq_true rfl) dX8_reckon_69) hP hD hS hA [0, 1, 2] [3, 4] [2, 3, 4, 0, 1] rfl rfl rfl ⟨by decide, by decide, by decide⟩ (fun H locs hP hD hS => ?_)
    exact kX8_reckon_72 E0 a_this a_row a_isKept a_text a_seenMember a_seenMinutes a_seenFact a_seenKnew a_sizes a_sorts a_places a_belows a_clubWord a_factWord a_memberWord a_commonWord a_stripedWord a_greedyWord a_bishopWord a_muffWord a_onWord a_line a_bestLine a_moved a_movedBelow x_undos x_length x_seenMany x_first x_behind x_readFacts x_readMembers x_readLeeches x_clauses x_doing x_hasNow x_knowsNow x_isOff x_sizes x_sorts n r_ret rm_places rm_belows x_places x_belows v1 v2 v3 v4 v5 q2_0 hr H locs ls hP hD hS (lv_sub hl [1, 2, 3, 4, 5, 6] rfl)
  · have hr := x_iff hr c_1
    refine lv_iload hx hb dX8_reckon_60 (lv_at hl 0 rfl) ?_
    refine lv_goto (tgt := 72) hx hb dX8_reckon_62 (by decide) ?_
    exact kX8_reckon_72 E0 a_this a_row a_isKept a_text a_seenMember a_seenMinutes a_seenFact a_seenKnew a_sizes a_sorts a_places a_belows a_clubWord a_factWord a_memberWord a_commonWord a_stripedWord a_greedyWord a_bishopWord a_muffWord a_onWord a_line a_bestLine a_moved a_movedBelow x_undos x_length x_seenMany x_first x_behind x_readFacts x_readMembers x_readLeeches x_clauses x_doing x_hasNow x_knowsNow x_isOff x_sizes x_sorts n r_ret rm_places rm_belows x_places x_belows v1 v2 v3 v4 v5 t0 hr H locs ls hP hD hS (lv_sub hl [1, 2, 3, 4, 5, 6] rfl)
set_option maxHeartbeats 4000000 in
set_option maxRecDepth 100000 in
theorem kX8_reckon_0 {p : Program} {l : Launch} {e : Env} {s : State} {m : MethodId} {args : Array Value} {below : List Frame} {meth : Method} {cd : Code} {D : va_G} {c : Nat → ClassId} {A : Nat → Prop} (E0 : xE p s m args meth cd D (xT c) A RX8 cX8_reckon 23 (some .int) wsX8_reckon) (a_this : Nat) (a_row : Nat) (a_isKept : Nat) (a_text : Nat) (a_seenMember : Nat) (a_seenMinutes : Nat) (a_seenFact : Nat) (a_seenKnew : Nat) (a_sizes : Nat) (a_sorts : Nat) (a_places : Nat) (a_belows : Nat) (a_clubWord : Nat) (a_factWord : Nat) (a_memberWord : Nat) (a_commonWord : Nat) (a_stripedWord : Nat) (a_greedyWord : Nat) (a_bishopWord : Nat) (a_muffWord : Nat) (a_onWord : Nat) (a_line : Nat) (a_bestLine : Nat) (a_moved : Nat) (a_movedBelow : Nat) (x_undos : Int32) (x_length : Int32) (x_seenMany : Int32) (x_first : Int32) (x_behind : Int32) (x_readFacts : Int32) (x_readMembers : Int32) (x_readLeeches : Int32) (x_clauses : Int32) (x_doing : Int32) (x_hasNow : Int32) (x_knowsNow : Int32) (x_isOff : Int32) (x_sizes : Nat → Int32) (x_sorts : Nat → Int32) (n : Nat) (r_ret : Int32) (rm_places : Nat → Int64) (rm_belows : Nat → Int32) (x_places : Nat → Int64) (x_belows : Nat → Int32) (v1 : Int32) (v2 : Int32) (v3 : Int32) (v4 : Int32) (v5 : Int32) (hr : fX8_reckon n x_sizes x_sorts x_places x_belows v1 v2 v3 v4 v5 = some (r_ret, rm_places, rm_belows)) : GX8_reckon p l e s m args below meth cd D c A a_this a_row a_isKept a_text a_seenMember a_seenMinutes a_seenFact a_seenKnew a_sizes a_sorts a_places a_belows a_clubWord a_factWord a_memberWord a_commonWord a_stripedWord a_greedyWord a_bishopWord a_muffWord a_onWord a_line a_bestLine a_moved a_movedBelow x_undos x_length x_seenMany x_first x_behind x_readFacts x_readMembers x_readLeeches x_clauses x_doing x_hasNow x_knowsNow x_isOff x_sizes x_sorts r_ret rm_places rm_belows 0 [] [(0, .ref a_this), (1, .int v1), (2, .int v2), (3, .int v3), (4, .int v4), (5, .int v5)] x_places x_belows := by
  have E1 := E0
  obtain ⟨hx, hb, hml, hret, hown, hts, hlocks, hA, hK⟩ := E1
  intro H locs ls hP hD hS hl
  unfold fX8_reckon at hr
  refine lv_iload_n hx hb dX8_reckon_0 rfl (lv_at hl 1 rfl) ?_
  obtain ⟨q1_0, hc1, hr⟩ := x_bind hr
  refine x_runi (wr := [(a_this, .inr (8, [.ref a_row, .int x_undos, .ref a_isKept, .ref a_text, .int x_length, .int x_seenMany, .ref a_seenMember, .ref a_seenMinutes, .ref a_seenFact, .ref a_seenKnew, .ref a_sizes, .ref a_sorts, .ref a_places, .ref a_belows, .int x_first, .int x_behind, .int x_readFacts, .int x_readMembers, .int x_readLeeches, .int x_clauses, .int x_doing, .ref a_clubWord, .ref a_factWord, .ref a_memberWord, .ref a_commonWord, .ref a_stripedWord, .ref a_greedyWord, .ref a_bishopWord, .ref a_muffWord, .ref a_onWord, .int x_hasNow, .int x_knowsNow, .int x_isOff, .ref a_line, .ref a_bestLine, .ref a_moved, .ref a_movedBelow])), (a_sizes, .inl (c 0, 4, .inl x_sizes)), (a_sorts, .inl (c 0, 4, .inl x_sorts)), (a_places, .inl (c 1, 40, .inr (.inl x_places))), (a_belows, .inl (c 0, 40, .inl x_belows))]) (wf := [(a_this, .inr (8, [.ref a_row, .int x_undos, .ref a_isKept, .ref a_text, .int x_length, .int x_seenMany, .ref a_seenMember, .ref a_seenMinutes, .ref a_seenFact, .ref a_seenKnew, .ref a_sizes, .ref a_sorts, .ref a_places, .ref a_belows, .int x_first, .int x_behind, .int x_readFacts, .int x_readMembers, .int x_readLeeches, .int x_clauses, .int x_doing, .ref a_clubWord, .ref a_factWord, .ref a_memberWord, .ref a_commonWord, .ref a_stripedWord, .ref a_greedyWord, .ref a_bishopWord, .ref a_muffWord, .ref a_onWord, .int x_hasNow, .int x_knowsNow, .int x_isOff, .ref a_line, .ref a_bestLine, .ref a_moved, .ref a_movedBelow])), (a_sizes, .inl (c 0, 4, .inl x_sizes)), (a_sorts, .inl (c 0, 4, .inl x_sorts)), (a_places, .inl (c 1, 40, .inr (.inl x_places))), (a_belows, .inl (c 0, 40, .inl x_belows))]) (x_goS (As := [.int v1]) (rest := []) ⟨hx, hb, hml, hown, hts⟩ (mX8_isSlate l D c H.size v1 n _ hc1) (va_cwS 1 hts gX8_reckon_X8_isSlate rfl rfl rfl (by decide +kernel) ⟨Nat.le_of_ble_eq_true rfl, Nat.le_of_ble_eq_true rfl⟩) xB_t hP hD hK [] rfl (by decide) (fun _ _ _ => trivial) rfl hl.1 rfl (Nat.le_of_ble_eq_true rfl) dX8_reckon_1) hP hD hS hA [] [0, 1, 2, 3, 4] [0, 1, 2, 3, 4] rfl rfl rfl ⟨by decide, by decide, by decide⟩ (fun H locs hP hD hS => ?_)
  refine lv_if_ne (tgt := 10) hx hb dX8_reckon_4 (by decide) (fun c_2 => ?_) (fun c_2 => ?_)
  · have hr := x_iff hr c_2
    refine lv_iload hx hb dX8_reckon_10 (lv_at hl 5 rfl) ?_
    refine lv_i2l hx hb dX8_reckon_12 rfl ?_
    refine lv_lconst (v := 0) hx hb dX8_reckon_13 (by decide) ?_
    refine lv_ldc2 hx hb hown (hts _ lkX8_reckon_J294) dX8_reckon_14 ?_
    obtain ⟨q3_0, hc3, hr⟩ := x_bind hr
    refine x_runi (wr := [(a_this, .inr (8, [.ref a_row, .int x_undos, .ref a_isKept, .ref a_text, .int x_length, .int x_seenMany, .ref a_seenMember, .ref a_seenMinutes, .ref a_seenFact, .ref a_seenKnew, .ref a_sizes, .ref a_sorts, .ref a_places, .ref a_belows, .int x_first, .int x_behind, .int x_readFacts, .int x_readMembers, .int x_readLeeches, .int x_clauses, .int x_doing, .ref a_clubWord, .ref a_factWord, .ref a_memberWord, .ref a_commonWord, .ref a_stripedWord, .ref a_greedyWord, .ref a_bishopWord, .ref a_muffWord, .ref a_onWord, .int x_hasNow, .int x_knowsNow, .int x_isOff, .ref a_line, .ref a_bestLine, .ref a_moved, .ref a_movedBelow])), (a_sizes, .inl (c 0, 4, .inl x_sizes)), (a_sorts, .inl (c 0, 4, .inl x_sorts)), (a_places, .inl (c 1, 40, .inr (.inl x_places))), (a_belows, .inl (c 0, 40, .inl x_belows))]) (wf := [(a_this, .inr (8, [.ref a_row, .int x_undos, .ref a_isKept, .ref a_text, .int x_length, .int x_seenMany, .ref a_seenMember, .ref a_seenMinutes, .ref a_seenFact, .ref a_seenKnew, .ref a_sizes, .ref a_sorts, .ref a_places, .ref a_belows, .int x_first, .int x_behind, .int x_readFacts, .int x_readMembers, .int x_readLeeches, .int x_clauses, .int x_doing, .ref a_clubWord, .ref a_factWord, .ref a_memberWord, .ref a_commonWord, .ref a_stripedWord, .ref a_greedyWord, .ref a_bishopWord, .ref a_muffWord, .ref a_onWord, .int x_hasNow, .int x_knowsNow, .int x_isOff, .ref a_line, .ref a_bestLine, .ref a_moved, .ref a_movedBelow])), (a_sizes, .inl (c 0, 4, .inl x_sizes)), (a_sorts, .inl (c 0, 4, .inl x_sorts)), (a_places, .inl (c 1, 40, .inr (.inl x_places))), (a_belows, .inl (c 0, 40, .inl x_belows))]) (x_goS (As := [.long v5.toInt64, .long 0, .long 2]) (rest := []) ⟨hx, hb, hml, hown, hts⟩ (mX8_in l D c H.size v5.toInt64 0 2 n _ hc3) (va_cwS 3 hts gX8_reckon_X8_in rfl rfl rfl (by decide +kernel) ⟨Nat.le_of_ble_eq_true rfl, Nat.le_of_ble_eq_true rfl⟩) xB_t hP hD hK [] rfl (by decide) (fun _ _ _ => trivial) rfl hl.1 rfl (Nat.le_of_ble_eq_true rfl) dX8_reckon_17) hP hD hS hA [] [0, 1, 2, 3, 4] [0, 1, 2, 3, 4] rfl rfl rfl ⟨by decide, by decide, by decide⟩ (fun H locs hP hD hS => ?_)
    refine lv_if_ne (tgt := 26) hx hb dX8_reckon_20 (by decide) (fun c_4 => ?_) (fun c_4 => ?_)
    · have hr := x_iff hr c_4
      refine lv_aload_n hx hb dX8_reckon_26 rfl (lv_at hl 0 rfl) ?_
      refine lv_iload_n hx hb dX8_reckon_27 rfl (lv_at hl 1 rfl) ?_
      refine lv_iconst (v := 2) hx hb dX8_reckon_28 (by decide) ?_
      refine lv_iload_n hx hb dX8_reckon_29 rfl (lv_at hl 3 rfl) ?_
      obtain ⟨q5_0, hc5, hr⟩ := x_bind hr
      refine x_runi (wr := [(a_places, .inl (c 1, 40, .inr (.inl x_places))), (a_belows, .inl (c 0, 40, .inl x_belows))]) (wf := [(a_this, .inr (8, [.ref a_row, .int x_undos, .ref a_isKept, .ref a_text, .int x_length, .int x_seenMany, .ref a_seenMember, .ref a_seenMinutes, .ref a_seenFact, .ref a_seenKnew, .ref a_sizes, .ref a_sorts, .ref a_places, .ref a_belows, .int x_first, .int x_behind, .int x_readFacts, .int x_readMembers, .int x_readLeeches, .int x_clauses, .int x_doing, .ref a_clubWord, .ref a_factWord, .ref a_memberWord, .ref a_commonWord, .ref a_stripedWord, .ref a_greedyWord, .ref a_bishopWord, .ref a_muffWord, .ref a_onWord, .int x_hasNow, .int x_knowsNow, .int x_isOff, .ref a_line, .ref a_bestLine, .ref a_moved, .ref a_movedBelow])), (a_sizes, .inl (c 0, 4, .inl x_sizes)), (a_sorts, .inl (c 0, 4, .inl x_sorts)), (a_places, .inl (c 1, 40, .inr (.inl x_places))), (a_belows, .inl (c 0, 40, .inl x_belows))]) (x_goV (As := [.int v1, .int 2, .int v3]) (rest := []) ⟨hx, hb, hml, hown, hts⟩ (mX8_noPlace l D c a_this a_row a_isKept a_text a_seenMember a_seenMinutes a_seenFact a_seenKnew a_sizes a_sorts a_places a_belows a_clubWord a_factWord a_memberWord a_commonWord a_stripedWord a_greedyWord a_bishopWord a_muffWord a_onWord a_line a_bestLine a_moved a_movedBelow H.size x_undos x_length x_seenMany x_first x_behind x_readFacts x_readMembers x_readLeeches x_clauses x_doing x_hasNow x_knowsNow x_isOff x_sizes x_sorts v1 2 v3 n _ hc5) (cwV 3 hts gX8_reckon_X8_noPlace rfl rfl rfl (by decide +kernel) ⟨Nat.le_of_ble_eq_true rfl, Nat.le_of_ble_eq_true rfl⟩) xB_t hP hD hK [0, 1, 2] rfl (by decide) (fun _ _ _ => trivial) 0 8 rfl rfl rfl rfl hl.1 rfl (Nat.le_of_ble_eq_true rfl) dX8_reckon_30) hP hD hS hA [0, 1, 2] [3, 4] [2, 3, 4, 0, 1] rfl rfl rfl ⟨by decide, by decide, by decide⟩ (fun H locs hP hD hS => ?_)
      refine lv_istore (lv' := [(6, .int q5_0), (0, .ref a_this), (1, .int v1), (2, .int v2), (3, .int v3), (4, .int v4), (5, .int v5)]) hx hb dX8_reckon_33 hl (by decide) rfl (fun ls hl => ?_)
      refine lv_iload hx hb dX8_reckon_35 (lv_at hl 0 rfl) ?_
      refine lv_if_eq (tgt := 45) hx hb dX8_reckon_37 (by decide) (fun c_6 => ?_) (fun c_6 => ?_)
      · have hr := x_ift hr c_6
        refine lv_aload_n hx hb dX8_reckon_45 rfl (lv_at hl 1 rfl) ?_
        refine lv_iload_n hx hb dX8_reckon_46 rfl (lv_at hl 2 rfl) ?_
        refine lv_iconst (v := 2) hx hb dX8_reckon_47 (by decide) ?_
        refine lv_iload hx hb dX8_reckon_48 (lv_at hl 5 rfl) ?_
        obtain ⟨q7_0, hc7, hr⟩ := x_bind hr
        refine x_runi (wr := [(a_places, .inl (c 1, 40, .inr (.inl x_places))), (a_belows, .inl (c 0, 40, .inl x_belows))]) (wf := [(a_this, .inr (8, [.ref a_row, .int x_undos, .ref a_isKept, .ref a_text, .int x_length, .int x_seenMany, .ref a_seenMember, .ref a_seenMinutes, .ref a_seenFact, .ref a_seenKnew, .ref a_sizes, .ref a_sorts, .ref a_places, .ref a_belows, .int x_first, .int x_behind, .int x_readFacts, .int x_readMembers, .int x_readLeeches, .int x_clauses, .int x_doing, .ref a_clubWord, .ref a_factWord, .ref a_memberWord, .ref a_commonWord, .ref a_stripedWord, .ref a_greedyWord, .ref a_bishopWord, .ref a_muffWord, .ref a_onWord, .int x_hasNow, .int x_knowsNow, .int x_isOff, .ref a_line, .ref a_bestLine, .ref a_moved, .ref a_movedBelow])), (a_sizes, .inl (c 0, 4, .inl x_sizes)), (a_sorts, .inl (c 0, 4, .inl x_sorts)), (a_places, .inl (c 1, 40, .inr (.inl x_places))), (a_belows, .inl (c 0, 40, .inl x_belows))]) (x_goV (As := [.int v1, .int 2, .int v4]) (rest := []) ⟨hx, hb, hml, hown, hts⟩ (mX8_noPlace l D c a_this a_row a_isKept a_text a_seenMember a_seenMinutes a_seenFact a_seenKnew a_sizes a_sorts a_places a_belows a_clubWord a_factWord a_memberWord a_commonWord a_stripedWord a_greedyWord a_bishopWord a_muffWord a_onWord a_line a_bestLine a_moved a_movedBelow H.size x_undos x_length x_seenMany x_first x_behind x_readFacts x_readMembers x_readLeeches x_clauses x_doing x_hasNow x_knowsNow x_isOff x_sizes x_sorts v1 2 v4 n _ hc7) (cwV 3 hts gX8_reckon_X8_noPlace rfl rfl rfl (by decide +kernel) ⟨Nat.le_of_ble_eq_true rfl, Nat.le_of_ble_eq_true rfl⟩) xB_t hP hD hK [0, 1, 2] rfl (by decide) (fun _ _ _ => trivial) 0 8 rfl rfl rfl rfl hl.1 rfl (Nat.le_of_ble_eq_true rfl) dX8_reckon_50) hP hD hS hA [0, 1, 2] [3, 4] [2, 3, 4, 0, 1] rfl rfl rfl ⟨by decide, by decide, by decide⟩ (fun H locs hP hD hS => ?_)
        exact kX8_reckon_53 E0 a_this a_row a_isKept a_text a_seenMember a_seenMinutes a_seenFact a_seenKnew a_sizes a_sorts a_places a_belows a_clubWord a_factWord a_memberWord a_commonWord a_stripedWord a_greedyWord a_bishopWord a_muffWord a_onWord a_line a_bestLine a_moved a_movedBelow x_undos x_length x_seenMany x_first x_behind x_readFacts x_readMembers x_readLeeches x_clauses x_doing x_hasNow x_knowsNow x_isOff x_sizes x_sorts n r_ret rm_places rm_belows x_places x_belows v1 v2 v3 v4 v5 q7_0 hr H locs ls hP hD hS (lv_sub hl [1, 2, 3, 4, 5, 6] rfl)
      · have hr := x_iff hr c_6
        refine lv_iload hx hb dX8_reckon_40 (lv_at hl 0 rfl) ?_
        refine lv_goto (tgt := 53) hx hb dX8_reckon_42 (by decide) ?_
        exact kX8_reckon_53 E0 a_this a_row a_isKept a_text a_seenMember a_seenMinutes a_seenFact a_seenKnew a_sizes a_sorts a_places a_belows a_clubWord a_factWord a_memberWord a_commonWord a_stripedWord a_greedyWord a_bishopWord a_muffWord a_onWord a_line a_bestLine a_moved a_movedBelow x_undos x_length x_seenMany x_first x_behind x_readFacts x_readMembers x_readLeeches x_clauses x_doing x_hasNow x_knowsNow x_isOff x_sizes x_sorts n r_ret rm_places rm_belows x_places x_belows v1 v2 v3 v4 v5 q5_0 hr H locs ls hP hD hS (lv_sub hl [1, 2, 3, 4, 5, 6] rfl)
    · have hr := x_ift hr c_4
      refine lv_bipush (v := (-3)) hx hb dX8_reckon_23 (by decide) ?_
      have g0 := x_some hr
      have e0 := x_p1 g0
      have g1 := x_p2 g0
      have e1 := x_p1 g1
      have e2 := x_p2 g1
      subst e0
      subst e1
      subst e2
      exact x_reti hx hb hret hlocks hP hD hK hS dX8_reckon_25
  · have hr := x_ift hr c_2
    refine lv_bipush (v := (-2)) hx hb dX8_reckon_7 (by decide) ?_
    have g0 := x_some hr
    have e0 := x_p1 g0
    have g1 := x_p2 g0
    have e1 := x_p1 g1
    have e2 := x_p2 g1
    subst e0
    subst e1
    subst e2
    exact x_reti hx hb hret hlocks hP hD hK hS dX8_reckon_9
set_option maxHeartbeats 4000000 in
set_option maxRecDepth 100000 in
theorem mX8_reckon (l : Launch) (D : va_G) (c : Nat → ClassId) (a_this : Nat) (a_row : Nat) (a_isKept : Nat) (a_text : Nat) (a_seenMember : Nat) (a_seenMinutes : Nat) (a_seenFact : Nat) (a_seenKnew : Nat) (a_sizes : Nat) (a_sorts : Nat) (a_places : Nat) (a_belows : Nat) (a_clubWord : Nat) (a_factWord : Nat) (a_memberWord : Nat) (a_commonWord : Nat) (a_stripedWord : Nat) (a_greedyWord : Nat) (a_bishopWord : Nat) (a_muffWord : Nat) (a_onWord : Nat) (a_line : Nat) (a_bestLine : Nat) (a_moved : Nat) (a_movedBelow : Nat) (sz : Nat) (x_undos : Int32) (x_length : Int32) (x_seenMany : Int32) (x_first : Int32) (x_behind : Int32) (x_readFacts : Int32) (x_readMembers : Int32) (x_readLeeches : Int32) (x_clauses : Int32) (x_doing : Int32) (x_hasNow : Int32) (x_knowsNow : Int32) (x_isOff : Int32) (x_sizes : Nat → Int32) (x_sorts : Nat → Int32) (x_places : Nat → Int64) (x_belows : Nat → Int32) (v1 : Int32) (v2 : Int32) (v3 : Int32) (v4 : Int32) (v5 : Int32) (n : Nat) (r_ret : Int32) (rm_places : Nat → Int64) (rm_belows : Nat → Int32) (h : fX8_reckon n x_sizes x_sorts x_places x_belows v1 v2 v3 v4 v5 = some (r_ret, rm_places, rm_belows)) : Met l yX8_reckon wsX8_reckon ({ frames := 2, cells := 0, slots := 0, locals := 55 } : Room) (xPc D (xT c) sz [.ref a_this, .int v1, .int v2, .int v3, .int v4, .int v5] (wX8_reckon c a_this a_row a_isKept a_text a_seenMember a_seenMinutes a_seenFact a_seenKnew a_sizes a_sorts a_places a_belows a_clubWord a_factWord a_memberWord a_commonWord a_stripedWord a_greedyWord a_bishopWord a_muffWord a_onWord a_line a_bestLine a_moved a_movedBelow x_undos x_length x_seenMany x_first x_behind x_readFacts x_readMembers x_readLeeches x_clauses x_doing x_hasNow x_knowsNow x_isOff x_sizes x_sorts x_places x_belows) (fun _ => True)) (xQi D (xT c) (va_A (wX8_reckon c a_this a_row a_isKept a_text a_seenMember a_seenMinutes a_seenFact a_seenKnew a_sizes a_sorts a_places a_belows a_clubWord a_factWord a_memberWord a_commonWord a_stripedWord a_greedyWord a_bishopWord a_muffWord a_onWord a_line a_bestLine a_moved a_movedBelow x_undos x_length x_seenMany x_first x_behind x_readFacts x_readMembers x_readLeeches x_clauses x_doing x_hasNow x_knowsNow x_isOff x_sizes x_sorts x_places x_belows) sz) r_ret (wX8_reckon c a_this a_row a_isKept a_text a_seenMember a_seenMinutes a_seenFact a_seenKnew a_sizes a_sorts a_places a_belows a_clubWord a_factWord a_memberWord a_commonWord a_stripedWord a_greedyWord a_bishopWord a_muffWord a_onWord a_line a_bestLine a_moved a_movedBelow x_undos x_length x_seenMany x_first x_behind x_readFacts x_readMembers x_readLeeches x_clauses x_doing x_hasNow x_knowsNow x_isOff x_sizes x_sorts rm_places rm_belows)) 0 0 (va_A (wX8_reckon c a_this a_row a_isKept a_text a_seenMember a_seenMinutes a_seenFact a_seenKnew a_sizes a_sorts a_places a_belows a_clubWord a_factWord a_memberWord a_commonWord a_stripedWord a_greedyWord a_bishopWord a_muffWord a_onWord a_line a_bestLine a_moved a_movedBelow x_undos x_length x_seenMany x_first x_behind x_readFacts x_readMembers x_readLeeches x_clauses x_doing x_hasNow x_knowsNow x_isOff x_sizes x_sorts x_places x_belows) sz) := by
  refine Met.ofW (cc := cX8_reckon) (maxL := 23) (ret := (some .int)) (by decide) rfl ?_
  intro p e s m args below meth cd s₁ B hml hv
  obtain ⟨rfl, hsz, hP, hK, hD0, hV⟩ := hv
  subst hsz
  have hl := lv_entry [.ref a_this, .int v1, .int v2, .int v3, .int v4, .int v5] (n := 23) (Nat.le_of_ble_eq_true rfl)
  rw [lg_entry_eq]
  exact kX8_reckon_0 (A := va_A (wX8_reckon c a_this a_row a_isKept a_text a_seenMember a_seenMinutes a_seenFact a_seenKnew a_sizes a_sorts a_places a_belows a_clubWord a_factWord a_memberWord a_commonWord a_stripedWord a_greedyWord a_bishopWord a_muffWord a_onWord a_line a_bestLine a_moved a_movedBelow x_undos x_length x_seenMany x_first x_behind x_readFacts x_readMembers x_readLeeches x_clauses x_doing x_hasNow x_knowsNow x_isOff x_sizes x_sorts x_places x_belows) s.heap.size) ⟨B.exec, B.bytes, hml, B.returns, findClass_of_methodNamed B.named, atoms_spec (ws := wsX8_reckon) B.pre, B.notSynchronized, fun q h => Or.inr h, hK⟩ a_this a_row a_isKept a_text a_seenMember a_seenMinutes a_seenFact a_seenKnew a_sizes a_sorts a_places a_belows a_clubWord a_factWord a_memberWord a_commonWord a_stripedWord a_greedyWord a_bishopWord a_muffWord a_onWord a_line a_bestLine a_moved a_movedBelow x_undos x_length x_seenMany x_first x_behind x_readFacts x_readMembers x_readLeeches x_clauses x_doing x_hasNow x_knowsNow x_isOff x_sizes x_sorts n r_ret rm_places rm_belows x_places x_belows v1 v2 v3 v4 v5 h s.heap [] _ hP hD0.self va_S.rf hl

abbrev wX8_isSpan (c : Nat → ClassId) (a_this : Nat) (a_row : Nat) (a_isKept : Nat) (a_text : Nat) (a_seenMember : Nat) (a_seenMinutes : Nat) (a_seenFact : Nat) (a_seenKnew : Nat) (a_sizes : Nat) (a_sorts : Nat) (a_places : Nat) (a_belows : Nat) (a_clubWord : Nat) (a_factWord : Nat) (a_memberWord : Nat) (a_commonWord : Nat) (a_stripedWord : Nat) (a_greedyWord : Nat) (a_bishopWord : Nat) (a_muffWord : Nat) (a_onWord : Nat) (a_line : Nat) (a_bestLine : Nat) (a_moved : Nat) (a_movedBelow : Nat) (x_undos : Int32) (x_length : Int32) (x_seenMany : Int32) (x_first : Int32) (x_behind : Int32) (x_readFacts : Int32) (x_readMembers : Int32) (x_readLeeches : Int32) (x_clauses : Int32) (x_doing : Int32) (x_hasNow : Int32) (x_knowsNow : Int32) (x_isOff : Int32) (x_sizes : Nat → Int32) : va_W := [(a_this, .inr (8, [.ref a_row, .int x_undos, .ref a_isKept, .ref a_text, .int x_length, .int x_seenMany, .ref a_seenMember, .ref a_seenMinutes, .ref a_seenFact, .ref a_seenKnew, .ref a_sizes, .ref a_sorts, .ref a_places, .ref a_belows, .int x_first, .int x_behind, .int x_readFacts, .int x_readMembers, .int x_readLeeches, .int x_clauses, .int x_doing, .ref a_clubWord, .ref a_factWord, .ref a_memberWord, .ref a_commonWord, .ref a_stripedWord, .ref a_greedyWord, .ref a_bishopWord, .ref a_muffWord, .ref a_onWord, .int x_hasNow, .int x_knowsNow, .int x_isOff, .ref a_line, .ref a_bestLine, .ref a_moved, .ref a_movedBelow])), (a_sizes, .inl (c 0, 4, .inl x_sizes))]
def GX8_isSpan (p : Program) (l : Launch) (e : Env) (s : State) (m : MethodId) (args : Array Value) (below : List Frame) (meth : Method) (cd : Code) (D : va_G) (c : Nat → ClassId) (A : Nat → Prop) (a_this : Nat) (a_row : Nat) (a_isKept : Nat) (a_text : Nat) (a_seenMember : Nat) (a_seenMinutes : Nat) (a_seenFact : Nat) (a_seenKnew : Nat) (a_sizes : Nat) (a_sorts : Nat) (a_places : Nat) (a_belows : Nat) (a_clubWord : Nat) (a_factWord : Nat) (a_memberWord : Nat) (a_commonWord : Nat) (a_stripedWord : Nat) (a_greedyWord : Nat) (a_bishopWord : Nat) (a_muffWord : Nat) (a_onWord : Nat) (a_line : Nat) (a_bestLine : Nat) (a_moved : Nat) (a_movedBelow : Nat) (x_undos : Int32) (x_length : Int32) (x_seenMany : Int32) (x_first : Int32) (x_behind : Int32) (x_readFacts : Int32) (x_readMembers : Int32) (x_readLeeches : Int32) (x_clauses : Int32) (x_doing : Int32) (x_hasNow : Int32) (x_knowsNow : Int32) (x_isOff : Int32) (x_sizes : Nat → Int32) (r_ret : Int32) (pc : Nat) (st : List Value) (loc : List (Nat × Value)) : Prop :=
  ∀ (H : Heap) (locs : List Loc) (ls : Array Slot), va_P D vwCl (wX8_isSpan c a_this a_row a_isKept a_text a_seenMember a_seenMinutes a_seenFact a_seenKnew a_sizes a_sorts a_places a_belows a_clubWord a_factWord a_memberWord a_commonWord a_stripedWord a_greedyWord a_bishopWord a_muffWord a_onWord a_line a_bestLine a_moved a_movedBelow x_undos x_length x_seenMany x_first x_behind x_readFacts x_readMembers x_readLeeches x_clauses x_doing x_hasNow x_knowsNow x_isOff x_sizes) H → va_D A (wX8_isSpan c a_this a_row a_isKept a_text a_seenMember a_seenMinutes a_seenFact a_seenKnew a_sizes a_sorts a_places a_belows a_clubWord a_factWord a_memberWord a_commonWord a_stripedWord a_greedyWord a_bishopWord a_muffWord a_onWord a_line a_bestLine a_moved a_movedBelow x_undos x_length x_seenMany x_first x_behind x_readFacts x_readMembers x_readLeeches x_clauses x_doing x_hasNow x_knowsNow x_isOff x_sizes) → va_S A s.heap H locs → lv_has ls 4 loc → W p l e ({ frames := 0, cells := 0, slots := 0, locals := 0 } : Room) s m args below meth cd H locs 0 0 (MQ below (xQi D (xT c) A r_ret (wX8_isSpan c a_this a_row a_isKept a_text a_seenMember a_seenMinutes a_seenFact a_seenKnew a_sizes a_sorts a_places a_belows a_clubWord a_factWord a_memberWord a_commonWord a_stripedWord a_greedyWord a_bishopWord a_muffWord a_onWord a_line a_bestLine a_moved a_movedBelow x_undos x_length x_seenMany x_first x_behind x_readFacts x_readMembers x_readLeeches x_clauses x_doing x_hasNow x_knowsNow x_isOff x_sizes)) args s 0 0 A) (F0 m pc ls st)
theorem lkX8_isSpan_f32 : Cond.fieldLink RX8 32 "LeechClubModel" "sizes" "[I" ∈ wsX8_isSpan := by decide +kernel
theorem inX8_isSpan_X8 : ∀ w ∈ wsX80, w ∈ wsX8_isSpan := by decide +kernel
set_option maxHeartbeats 4000000 in
set_option maxRecDepth 100000 in
theorem kX8_isSpan_29 {p : Program} {l : Launch} {e : Env} {s : State} {m : MethodId} {args : Array Value} {below : List Frame} {meth : Method} {cd : Code} {D : va_G} {c : Nat → ClassId} {A : Nat → Prop} (E0 : xE p s m args meth cd D (xT c) A RX8 cX8_isSpan 4 (some .boolean) wsX8_isSpan) (a_this : Nat) (a_row : Nat) (a_isKept : Nat) (a_text : Nat) (a_seenMember : Nat) (a_seenMinutes : Nat) (a_seenFact : Nat) (a_seenKnew : Nat) (a_sizes : Nat) (a_sorts : Nat) (a_places : Nat) (a_belows : Nat) (a_clubWord : Nat) (a_factWord : Nat) (a_memberWord : Nat) (a_commonWord : Nat) (a_stripedWord : Nat) (a_greedyWord : Nat) (a_bishopWord : Nat) (a_muffWord : Nat) (a_onWord : Nat) (a_line : Nat) (a_bestLine : Nat) (a_moved : Nat) (a_movedBelow : Nat) (x_undos : Int32) (x_length : Int32) (x_seenMany : Int32) (x_first : Int32) (x_behind : Int32) (x_readFacts : Int32) (x_readMembers : Int32) (x_readLeeches : Int32) (x_clauses : Int32) (x_doing : Int32) (x_hasNow : Int32) (x_knowsNow : Int32) (x_isOff : Int32) (x_sizes : Nat → Int32) (n : Nat) (r_ret : Int32) (t0 : Int32) (hr : fX8_isSpan_29 n x_sizes t0 = some (r_ret)) : GX8_isSpan p l e s m args below meth cd D c A a_this a_row a_isKept a_text a_seenMember a_seenMinutes a_seenFact a_seenKnew a_sizes a_sorts a_places a_belows a_clubWord a_factWord a_memberWord a_commonWord a_stripedWord a_greedyWord a_bishopWord a_muffWord a_onWord a_line a_bestLine a_moved a_movedBelow x_undos x_length x_seenMany x_first x_behind x_readFacts x_readMembers x_readLeeches x_clauses x_doing x_hasNow x_knowsNow x_isOff x_sizes r_ret 29 [.int t0] [] := by
  have E1 := E0
  obtain ⟨hx, hb, hml, hret, hown, hts, hlocks, hA, hK⟩ := E1
  intro H locs ls hP hD hS hl
  unfold fX8_isSpan_29 at hr
  obtain ⟨hz, hr⟩ := x_need hr
  have e0 := x_some hr
  subst e0
  exact x_retz hx hb hret (x_nz hz) hlocks hP hD hK hS dX8_isSpan_29
set_option maxHeartbeats 4000000 in
set_option maxRecDepth 100000 in
theorem kX8_isSpan_28 {p : Program} {l : Launch} {e : Env} {s : State} {m : MethodId} {args : Array Value} {below : List Frame} {meth : Method} {cd : Code} {D : va_G} {c : Nat → ClassId} {A : Nat → Prop} (E0 : xE p s m args meth cd D (xT c) A RX8 cX8_isSpan 4 (some .boolean) wsX8_isSpan) (a_this : Nat) (a_row : Nat) (a_isKept : Nat) (a_text : Nat) (a_seenMember : Nat) (a_seenMinutes : Nat) (a_seenFact : Nat) (a_seenKnew : Nat) (a_sizes : Nat) (a_sorts : Nat) (a_places : Nat) (a_belows : Nat) (a_clubWord : Nat) (a_factWord : Nat) (a_memberWord : Nat) (a_commonWord : Nat) (a_stripedWord : Nat) (a_greedyWord : Nat) (a_bishopWord : Nat) (a_muffWord : Nat) (a_onWord : Nat) (a_line : Nat) (a_bestLine : Nat) (a_moved : Nat) (a_movedBelow : Nat) (x_undos : Int32) (x_length : Int32) (x_seenMany : Int32) (x_first : Int32) (x_behind : Int32) (x_readFacts : Int32) (x_readMembers : Int32) (x_readLeeches : Int32) (x_clauses : Int32) (x_doing : Int32) (x_hasNow : Int32) (x_knowsNow : Int32) (x_isOff : Int32) (x_sizes : Nat → Int32) (n : Nat) (r_ret : Int32) (hr : fX8_isSpan_28 n x_sizes = some (r_ret)) : GX8_isSpan p l e s m args below meth cd D c A a_this a_row a_isKept a_text a_seenMember a_seenMinutes a_seenFact a_seenKnew a_sizes a_sorts a_places a_belows a_clubWord a_factWord a_memberWord a_commonWord a_stripedWord a_greedyWord a_bishopWord a_muffWord a_onWord a_line a_bestLine a_moved a_movedBelow x_undos x_length x_seenMany x_first x_behind x_readFacts x_readMembers x_readLeeches x_clauses x_doing x_hasNow x_knowsNow x_isOff x_sizes r_ret 28 [] [] := by
  have E1 := E0
  obtain ⟨hx, hb, hml, hret, hown, hts, hlocks, hA, hK⟩ := E1
  intro H locs ls hP hD hS hl
  unfold fX8_isSpan_28 at hr
  refine lv_iconst (v := 0) hx hb dX8_isSpan_28 (by decide) ?_
  exact kX8_isSpan_29 E0 a_this a_row a_isKept a_text a_seenMember a_seenMinutes a_seenFact a_seenKnew a_sizes a_sorts a_places a_belows a_clubWord a_factWord a_memberWord a_commonWord a_stripedWord a_greedyWord a_bishopWord a_muffWord a_onWord a_line a_bestLine a_moved a_movedBelow x_undos x_length x_seenMany x_first x_behind x_readFacts x_readMembers x_readLeeches x_clauses x_doing x_hasNow x_knowsNow x_isOff x_sizes n r_ret 0 hr H locs ls hP hD hS (lv_sub hl [] rfl)
set_option maxHeartbeats 4000000 in
set_option maxRecDepth 100000 in
theorem kX8_isSpan_0 {p : Program} {l : Launch} {e : Env} {s : State} {m : MethodId} {args : Array Value} {below : List Frame} {meth : Method} {cd : Code} {D : va_G} {c : Nat → ClassId} {A : Nat → Prop} (E0 : xE p s m args meth cd D (xT c) A RX8 cX8_isSpan 4 (some .boolean) wsX8_isSpan) (a_this : Nat) (a_row : Nat) (a_isKept : Nat) (a_text : Nat) (a_seenMember : Nat) (a_seenMinutes : Nat) (a_seenFact : Nat) (a_seenKnew : Nat) (a_sizes : Nat) (a_sorts : Nat) (a_places : Nat) (a_belows : Nat) (a_clubWord : Nat) (a_factWord : Nat) (a_memberWord : Nat) (a_commonWord : Nat) (a_stripedWord : Nat) (a_greedyWord : Nat) (a_bishopWord : Nat) (a_muffWord : Nat) (a_onWord : Nat) (a_line : Nat) (a_bestLine : Nat) (a_moved : Nat) (a_movedBelow : Nat) (x_undos : Int32) (x_length : Int32) (x_seenMany : Int32) (x_first : Int32) (x_behind : Int32) (x_readFacts : Int32) (x_readMembers : Int32) (x_readLeeches : Int32) (x_clauses : Int32) (x_doing : Int32) (x_hasNow : Int32) (x_knowsNow : Int32) (x_isOff : Int32) (x_sizes : Nat → Int32) (n : Nat) (r_ret : Int32) (v1 : Int32) (v2 : Int32) (v3 : Int32) (hr : fX8_isSpan n x_sizes v1 v2 v3 = some (r_ret)) : GX8_isSpan p l e s m args below meth cd D c A a_this a_row a_isKept a_text a_seenMember a_seenMinutes a_seenFact a_seenKnew a_sizes a_sorts a_places a_belows a_clubWord a_factWord a_memberWord a_commonWord a_stripedWord a_greedyWord a_bishopWord a_muffWord a_onWord a_line a_bestLine a_moved a_movedBelow x_undos x_length x_seenMany x_first x_behind x_readFacts x_readMembers x_readLeeches x_clauses x_doing x_hasNow x_knowsNow x_isOff x_sizes r_ret 0 [] [(0, .ref a_this), (1, .int v1), (2, .int v2), (3, .int v3)] := by
  have E1 := E0
  obtain ⟨hx, hb, hml, hret, hown, hts, hlocks, hA, hK⟩ := E1
  intro H locs ls hP hD hS hl
  unfold fX8_isSpan at hr
  refine lv_iload_n hx hb dX8_isSpan_0 rfl (lv_at hl 2 rfl) ?_
  refine lv_if_lt (tgt := 28) hx hb dX8_isSpan_1 (by decide) (fun c_1 => ?_) (fun c_1 => ?_)
  · have hr := x_ift hr c_1
    exact kX8_isSpan_28 E0 a_this a_row a_isKept a_text a_seenMember a_seenMinutes a_seenFact a_seenKnew a_sizes a_sorts a_places a_belows a_clubWord a_factWord a_memberWord a_commonWord a_stripedWord a_greedyWord a_bishopWord a_muffWord a_onWord a_line a_bestLine a_moved a_movedBelow x_undos x_length x_seenMany x_first x_behind x_readFacts x_readMembers x_readLeeches x_clauses x_doing x_hasNow x_knowsNow x_isOff x_sizes n r_ret hr H locs ls hP hD hS (lv_sub hl [] rfl)
  · have hr := x_iff hr c_1
    refine lv_iload_n hx hb dX8_isSpan_4 rfl (lv_at hl 3 rfl) ?_
    refine lv_if_lt (tgt := 28) hx hb dX8_isSpan_5 (by decide) (fun c_2 => ?_) (fun c_2 => ?_)
    · have hr := x_ift hr c_2
      exact kX8_isSpan_28 E0 a_this a_row a_isKept a_text a_seenMember a_seenMinutes a_seenFact a_seenKnew a_sizes a_sorts a_places a_belows a_clubWord a_factWord a_memberWord a_commonWord a_stripedWord a_greedyWord a_bishopWord a_muffWord a_onWord a_line a_bestLine a_moved a_movedBelow x_undos x_length x_seenMany x_first x_behind x_readFacts x_readMembers x_readLeeches x_clauses x_doing x_hasNow x_knowsNow x_isOff x_sizes n r_ret hr H locs ls hP hD hS (lv_sub hl [] rfl)
    · have hr := x_iff hr c_2
      refine lv_iload_n hx hb dX8_isSpan_8 rfl (lv_at hl 2 rfl) ?_
      refine lv_i2l hx hb dX8_isSpan_9 rfl ?_
      refine lv_iload_n hx hb dX8_isSpan_10 rfl (lv_at hl 3 rfl) ?_
      refine lv_i2l hx hb dX8_isSpan_11 rfl ?_
      refine lv_ladd hx hb dX8_isSpan_12 ?_
      refine lv_aload_n hx hb dX8_isSpan_13 rfl (lv_at hl 0 rfl) ?_
      refine va_get (D := D) (ci := 8) (v := .ref a_sizes) (C := RX8) (T := TX8) (N := 37) hx hb hts inX8_isSpan_X8 hown hK hP 0 rfl rfl 10 (by decide) (hts _ lkX8_isSpan_f32) (fun _ h9 => h9) rfl dX8_isSpan_14 ?_
      refine lv_iload_n hx hb dX8_isSpan_17 rfl (lv_at hl 1 rfl) ?_
      obtain ⟨b_3, hr⟩ := x_chk hr
      refine va_iald hx hb hK hP 1 0 rfl rfl b_3 dX8_isSpan_18 ?_
      refine lv_i2l hx hb dX8_isSpan_19 rfl ?_
      refine W.lcmp hx hb dX8_isSpan_20 ?_
      refine lv_if_gt (tgt := 28) hx hb dX8_isSpan_21 (by decide) (fun c_4 => ?_) (fun c_4 => ?_)
      · have hr := x_ift hr c_4
        exact kX8_isSpan_28 E0 a_this a_row a_isKept a_text a_seenMember a_seenMinutes a_seenFact a_seenKnew a_sizes a_sorts a_places a_belows a_clubWord a_factWord a_memberWord a_commonWord a_stripedWord a_greedyWord a_bishopWord a_muffWord a_onWord a_line a_bestLine a_moved a_movedBelow x_undos x_length x_seenMany x_first x_behind x_readFacts x_readMembers x_readLeeches x_clauses x_doing x_hasNow x_knowsNow x_isOff x_sizes n r_ret hr H locs ls hP hD hS (lv_sub hl [] rfl)
      · have hr := x_iff hr c_4
        refine lv_iconst (v := 1) hx hb dX8_isSpan_24 (by decide) ?_
        refine lv_goto (tgt := 29) hx hb dX8_isSpan_25 (by decide) ?_
        exact kX8_isSpan_29 E0 a_this a_row a_isKept a_text a_seenMember a_seenMinutes a_seenFact a_seenKnew a_sizes a_sorts a_places a_belows a_clubWord a_factWord a_memberWord a_commonWord a_stripedWord a_greedyWord a_bishopWord a_muffWord a_onWord a_line a_bestLine a_moved a_movedBelow x_undos x_length x_seenMany x_first x_behind x_readFacts x_readMembers x_readLeeches x_clauses x_doing x_hasNow x_knowsNow x_isOff x_sizes n r_ret 1 hr H locs ls hP hD hS (lv_sub hl [] rfl)
set_option maxHeartbeats 4000000 in
set_option maxRecDepth 100000 in
theorem mX8_isSpan (l : Launch) (D : va_G) (c : Nat → ClassId) (a_this : Nat) (a_row : Nat) (a_isKept : Nat) (a_text : Nat) (a_seenMember : Nat) (a_seenMinutes : Nat) (a_seenFact : Nat) (a_seenKnew : Nat) (a_sizes : Nat) (a_sorts : Nat) (a_places : Nat) (a_belows : Nat) (a_clubWord : Nat) (a_factWord : Nat) (a_memberWord : Nat) (a_commonWord : Nat) (a_stripedWord : Nat) (a_greedyWord : Nat) (a_bishopWord : Nat) (a_muffWord : Nat) (a_onWord : Nat) (a_line : Nat) (a_bestLine : Nat) (a_moved : Nat) (a_movedBelow : Nat) (sz : Nat) (x_undos : Int32) (x_length : Int32) (x_seenMany : Int32) (x_first : Int32) (x_behind : Int32) (x_readFacts : Int32) (x_readMembers : Int32) (x_readLeeches : Int32) (x_clauses : Int32) (x_doing : Int32) (x_hasNow : Int32) (x_knowsNow : Int32) (x_isOff : Int32) (x_sizes : Nat → Int32) (v1 : Int32) (v2 : Int32) (v3 : Int32) (n : Nat) (r_ret : Int32) (h : fX8_isSpan n x_sizes v1 v2 v3 = some (r_ret)) : Met l yX8_isSpan wsX8_isSpan ({ frames := 0, cells := 0, slots := 0, locals := 0 } : Room) (xPc D (xT c) sz [.ref a_this, .int v1, .int v2, .int v3] (wX8_isSpan c a_this a_row a_isKept a_text a_seenMember a_seenMinutes a_seenFact a_seenKnew a_sizes a_sorts a_places a_belows a_clubWord a_factWord a_memberWord a_commonWord a_stripedWord a_greedyWord a_bishopWord a_muffWord a_onWord a_line a_bestLine a_moved a_movedBelow x_undos x_length x_seenMany x_first x_behind x_readFacts x_readMembers x_readLeeches x_clauses x_doing x_hasNow x_knowsNow x_isOff x_sizes) (fun _ => True)) (xQi D (xT c) (va_A (wX8_isSpan c a_this a_row a_isKept a_text a_seenMember a_seenMinutes a_seenFact a_seenKnew a_sizes a_sorts a_places a_belows a_clubWord a_factWord a_memberWord a_commonWord a_stripedWord a_greedyWord a_bishopWord a_muffWord a_onWord a_line a_bestLine a_moved a_movedBelow x_undos x_length x_seenMany x_first x_behind x_readFacts x_readMembers x_readLeeches x_clauses x_doing x_hasNow x_knowsNow x_isOff x_sizes) sz) r_ret (wX8_isSpan c a_this a_row a_isKept a_text a_seenMember a_seenMinutes a_seenFact a_seenKnew a_sizes a_sorts a_places a_belows a_clubWord a_factWord a_memberWord a_commonWord a_stripedWord a_greedyWord a_bishopWord a_muffWord a_onWord a_line a_bestLine a_moved a_movedBelow x_undos x_length x_seenMany x_first x_behind x_readFacts x_readMembers x_readLeeches x_clauses x_doing x_hasNow x_knowsNow x_isOff x_sizes)) 0 0 (va_A (wX8_isSpan c a_this a_row a_isKept a_text a_seenMember a_seenMinutes a_seenFact a_seenKnew a_sizes a_sorts a_places a_belows a_clubWord a_factWord a_memberWord a_commonWord a_stripedWord a_greedyWord a_bishopWord a_muffWord a_onWord a_line a_bestLine a_moved a_movedBelow x_undos x_length x_seenMany x_first x_behind x_readFacts x_readMembers x_readLeeches x_clauses x_doing x_hasNow x_knowsNow x_isOff x_sizes) sz) := by
  refine Met.ofW (cc := cX8_isSpan) (maxL := 4) (ret := (some .boolean)) (by decide) rfl ?_
  intro p e s m args below meth cd s₁ B hml hv
  obtain ⟨rfl, hsz, hP, hK, hD0, hV⟩ := hv
  subst hsz
  have hl := lv_entry [.ref a_this, .int v1, .int v2, .int v3] (n := 4) (Nat.le_of_ble_eq_true rfl)
  rw [lg_entry_eq]
  exact kX8_isSpan_0 (A := va_A (wX8_isSpan c a_this a_row a_isKept a_text a_seenMember a_seenMinutes a_seenFact a_seenKnew a_sizes a_sorts a_places a_belows a_clubWord a_factWord a_memberWord a_commonWord a_stripedWord a_greedyWord a_bishopWord a_muffWord a_onWord a_line a_bestLine a_moved a_movedBelow x_undos x_length x_seenMany x_first x_behind x_readFacts x_readMembers x_readLeeches x_clauses x_doing x_hasNow x_knowsNow x_isOff x_sizes) s.heap.size) ⟨B.exec, B.bytes, hml, B.returns, findClass_of_methodNamed B.named, atoms_spec (ws := wsX8_isSpan) B.pre, B.notSynchronized, fun q h => Or.inr h, hK⟩ a_this a_row a_isKept a_text a_seenMember a_seenMinutes a_seenFact a_seenKnew a_sizes a_sorts a_places a_belows a_clubWord a_factWord a_memberWord a_commonWord a_stripedWord a_greedyWord a_bishopWord a_muffWord a_onWord a_line a_bestLine a_moved a_movedBelow x_undos x_length x_seenMany x_first x_behind x_readFacts x_readMembers x_readLeeches x_clauses x_doing x_hasNow x_knowsNow x_isOff x_sizes n r_ret v1 v2 v3 h s.heap [] _ hP hD0.self va_S.rf hl

