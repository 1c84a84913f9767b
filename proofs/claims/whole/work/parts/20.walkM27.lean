abbrev wX8_copy (c : Nat → ClassId) (a_this : Nat) (a_row : Nat) (a_isKept : Nat) (a_text : Nat) (a_seenMember : Nat) (a_seenMinutes : Nat) (a_seenFact : Nat) (a_seenKnew : Nat) (a_sizes : Nat) (a_sorts : Nat) (a_places : Nat) (a_belows : Nat) (a_clubWord : Nat) (a_factWord : Nat) (a_memberWord : Nat) (a_commonWord : Nat) (a_stripedWord : Nat) (a_greedyWord : Nat) (a_bishopWord : Nat) (a_muffWord : Nat) (a_onWord : Nat) (a_line : Nat) (a_bestLine : Nat) (a_moved : Nat) (a_movedBelow : Nat) (x_undos : Int32) (x_length : Int32) (x_seenMany : Int32) (x_first : Int32) (x_behind : Int32) (x_readFacts : Int32) (x_readMembers : Int32) (x_readLeeches : Int32) (x_clauses : Int32) (x_doing : Int32) (x_hasNow : Int32) (x_knowsNow : Int32) (x_isOff : Int32) (x_sizes : Nat → Int32) (x_sorts : Nat → Int32) (x_moved : Nat → Int64) (x_movedBelow : Nat → Int32) (x_places : Nat → Int64) (x_belows : Nat → Int32) : va_W := [(a_this, .inr (8, [.ref a_row, .int x_undos, .ref a_isKept, .ref a_text, .int x_length, .int x_seenMany, .ref a_seenMember, .ref a_seenMinutes, .ref a_seenFact, .ref a_seenKnew, .ref a_sizes, .ref a_sorts, .ref a_places, .ref a_belows, .int x_first, .int x_behind, .int x_readFacts, .int x_readMembers, .int x_readLeeches, .int x_clauses, .int x_doing, .ref a_clubWord, .ref a_factWord, .ref a_memberWord, .ref a_commonWord, .ref a_stripedWord, .ref a_greedyWord, .ref a_bishopWord, .ref a_muffWord, .ref a_onWord, .int x_hasNow, .int x_knowsNow, .int x_isOff, .ref a_line, .ref a_bestLine, .ref a_moved, .ref a_movedBelow])), (a_sizes, .inl (c 0, 4, .inl x_sizes)), (a_sorts, .inl (c 0, 4, .inl x_sorts)), (a_places, .inl (c 1, 40, .inr (.inl x_places))), (a_moved, .inl (c 1, 10, .inr (.inl x_moved))), (a_belows, .inl (c 0, 40, .inl x_belows)), (a_movedBelow, .inl (c 0, 10, .inl x_movedBelow))]
def GX8_copy (p : Program) (l : Launch) (e : Env) (s : State) (m : MethodId) (args : Array Value) (below : List Frame) (meth : Method) (cd : Code) (D : va_G) (c : Nat → ClassId) (A : Nat → Prop) (a_this : Nat) (a_row : Nat) (a_isKept : Nat) (a_text : Nat) (a_seenMember : Nat) (a_seenMinutes : Nat) (a_seenFact : Nat) (a_seenKnew : Nat) (a_sizes : Nat) (a_sorts : Nat) (a_places : Nat) (a_belows : Nat) (a_clubWord : Nat) (a_factWord : Nat) (a_memberWord : Nat) (a_commonWord : Nat) (a_stripedWord : Nat) (a_greedyWord : Nat) (a_bishopWord : Nat) (a_muffWord : Nat) (a_onWord : Nat) (a_line : Nat) (a_bestLine : Nat) (a_moved : Nat) (a_movedBelow : Nat) (x_undos : Int32) (x_length : Int32) (x_seenMany : Int32) (x_first : Int32) (x_behind : Int32) (x_readFacts : Int32) (x_readMembers : Int32) (x_readLeeches : Int32) (x_clauses : Int32) (x_doing : Int32) (x_hasNow : Int32) (x_knowsNow : Int32) (x_isOff : Int32) (x_sizes : Nat → Int32) (x_sorts : Nat → Int32) (r_ret : Int32) (rm_moved : Nat → Int64) (rm_movedBelow : Nat → Int32) (rm_places : Nat → Int64) (rm_belows : Nat → Int32) (pc : Nat) (st : List Value) (loc : List (Nat × Value)) (x_moved : Nat → Int64) (x_movedBelow : Nat → Int32) (x_places : Nat → Int64) (x_belows : Nat → Int32) : Prop :=
  ∀ (H : Heap) (locs : List Loc) (ls : Array Slot), va_P D vwCl (wX8_copy c a_this a_row a_isKept a_text a_seenMember a_seenMinutes a_seenFact a_seenKnew a_sizes a_sorts a_places a_belows a_clubWord a_factWord a_memberWord a_commonWord a_stripedWord a_greedyWord a_bishopWord a_muffWord a_onWord a_line a_bestLine a_moved a_movedBelow x_undos x_length x_seenMany x_first x_behind x_readFacts x_readMembers x_readLeeches x_clauses x_doing x_hasNow x_knowsNow x_isOff x_sizes x_sorts x_moved x_movedBelow x_places x_belows) H → va_D A (wX8_copy c a_this a_row a_isKept a_text a_seenMember a_seenMinutes a_seenFact a_seenKnew a_sizes a_sorts a_places a_belows a_clubWord a_factWord a_memberWord a_commonWord a_stripedWord a_greedyWord a_bishopWord a_muffWord a_onWord a_line a_bestLine a_moved a_movedBelow x_undos x_length x_seenMany x_first x_behind x_readFacts x_readMembers x_readLeeches x_clauses x_doing x_hasNow x_knowsNow x_isOff x_sizes x_sorts x_moved x_movedBelow x_places x_belows) → va_S A s.heap H locs → lv_has ls 7 loc → W p l e ({ frames := 2, cells := 0, slots := 0, locals := 45 } : Room) s m args below meth cd H locs 0 0 (MQ below (xQi D (xT c) A r_ret (wX8_copy c a_this a_row a_isKept a_text a_seenMember a_seenMinutes a_seenFact a_seenKnew a_sizes a_sorts a_places a_belows a_clubWord a_factWord a_memberWord a_commonWord a_stripedWord a_greedyWord a_bishopWord a_muffWord a_onWord a_line a_bestLine a_moved a_movedBelow x_undos x_length x_seenMany x_first x_behind x_readFacts x_readMembers x_readLeeches x_clauses x_doing x_hasNow x_knowsNow x_isOff x_sizes x_sorts rm_moved rm_movedBelow rm_places rm_belows)) args s 0 0 A) (F0 m pc ls st)
theorem lkX8_copy_f32 : Cond.fieldLink RX8 32 "LeechClubModel" "sizes" "[I" ∈ wsX8_copy := by decide +kernel
theorem lkX8_copy_f35 : Cond.fieldLink RX8 35 "LeechClubModel" "sorts" "[I" ∈ wsX8_copy := by decide +kernel
theorem lkX8_copy_f38 : Cond.fieldLink RX8 38 "LeechClubModel" "places" "[J" ∈ wsX8_copy := by decide +kernel
theorem lkX8_copy_f42 : Cond.fieldLink RX8 42 "LeechClubModel" "belows" "[I" ∈ wsX8_copy := by decide +kernel
theorem lkX8_copy_f78 : Cond.fieldLink RX8 78 "LeechClubModel" "moved" "[J" ∈ wsX8_copy := by decide +kernel
theorem lkX8_copy_f81 : Cond.fieldLink RX8 81 "LeechClubModel" "movedBelow" "[I" ∈ wsX8_copy := by decide +kernel
theorem inX8_copy_X8 : ∀ w ∈ wsX80, w ∈ wsX8_copy := by decide +kernel
set_option maxHeartbeats 4000000 in
set_option maxRecDepth 100000 in
theorem kX8_copy_14 {p : Program} {l : Launch} {e : Env} {s : State} {m : MethodId} {args : Array Value} {below : List Frame} {meth : Method} {cd : Code} {D : va_G} {c : Nat → ClassId} {A : Nat → Prop} (E0 : xE p s m args meth cd D (xT c) A RX8 cX8_copy 7 (some .int) wsX8_copy) (a_this : Nat) (a_row : Nat) (a_isKept : Nat) (a_text : Nat) (a_seenMember : Nat) (a_seenMinutes : Nat) (a_seenFact : Nat) (a_seenKnew : Nat) (a_sizes : Nat) (a_sorts : Nat) (a_places : Nat) (a_belows : Nat) (a_clubWord : Nat) (a_factWord : Nat) (a_memberWord : Nat) (a_commonWord : Nat) (a_stripedWord : Nat) (a_greedyWord : Nat) (a_bishopWord : Nat) (a_muffWord : Nat) (a_onWord : Nat) (a_line : Nat) (a_bestLine : Nat) (a_moved : Nat) (a_movedBelow : Nat) (x_undos : Int32) (x_length : Int32) (x_seenMany : Int32) (x_first : Int32) (x_behind : Int32) (x_readFacts : Int32) (x_readMembers : Int32) (x_readLeeches : Int32) (x_clauses : Int32) (x_doing : Int32) (x_hasNow : Int32) (x_knowsNow : Int32) (x_isOff : Int32) (x_sizes : Nat → Int32) (x_sorts : Nat → Int32) (n : Nat) (r_ret : Int32) (rm_moved : Nat → Int64) (rm_movedBelow : Nat → Int32) (rm_places : Nat → Int64) (rm_belows : Nat → Int32) (x_moved : Nat → Int64) (x_movedBelow : Nat → Int32) (x_places : Nat → Int64) (x_belows : Nat → Int32) (hr : fX8_copy_14 n x_sizes x_sorts x_moved x_movedBelow x_places x_belows = some (r_ret, rm_moved, rm_movedBelow, rm_places, rm_belows)) : GX8_copy p l e s m args below meth cd D c A a_this a_row a_isKept a_text a_seenMember a_seenMinutes a_seenFact a_seenKnew a_sizes a_sorts a_places a_belows a_clubWord a_factWord a_memberWord a_commonWord a_stripedWord a_greedyWord a_bishopWord a_muffWord a_onWord a_line a_bestLine a_moved a_movedBelow x_undos x_length x_seenMany x_first x_behind x_readFacts x_readMembers x_readLeeches x_clauses x_doing x_hasNow x_knowsNow x_isOff x_sizes x_sorts r_ret rm_moved rm_movedBelow rm_places rm_belows 14 [] [] x_moved x_movedBelow x_places x_belows := by
  have E1 := E0
  obtain ⟨hx, hb, hml, hret, hown, hts, hlocks, hA, hK⟩ := E1
  intro H locs ls hP hD hS hl
  unfold fX8_copy_14 at hr
  refine lv_bipush (v := (-2)) hx hb dX8_copy_14 (by decide) ?_
  have g0 := x_some hr
  have e0 := x_p1 g0
  have g1 := x_p2 g0
  have e1 := x_p1 g1
  have g2 := x_p2 g1
  have e2 := x_p1 g2
  have g3 := x_p2 g2
  have e3 := x_p1 g3
  have e4 := x_p2 g3
  subst e0
  subst e1
  subst e2
  subst e3
  subst e4
  exact x_reti hx hb hret hlocks hP hD hK hS dX8_copy_16
set_option maxHeartbeats 4000000 in
set_option maxRecDepth 100000 in
theorem kX8_copy_35 {p : Program} {l : Launch} {e : Env} {s : State} {m : MethodId} {args : Array Value} {below : List Frame} {meth : Method} {cd : Code} {D : va_G} {c : Nat → ClassId} {A : Nat → Prop} (E0 : xE p s m args meth cd D (xT c) A RX8 cX8_copy 7 (some .int) wsX8_copy) (a_this : Nat) (a_row : Nat) (a_isKept : Nat) (a_text : Nat) (a_seenMember : Nat) (a_seenMinutes : Nat) (a_seenFact : Nat) (a_seenKnew : Nat) (a_sizes : Nat) (a_sorts : Nat) (a_places : Nat) (a_belows : Nat) (a_clubWord : Nat) (a_factWord : Nat) (a_memberWord : Nat) (a_commonWord : Nat) (a_stripedWord : Nat) (a_greedyWord : Nat) (a_bishopWord : Nat) (a_muffWord : Nat) (a_onWord : Nat) (a_line : Nat) (a_bestLine : Nat) (a_moved : Nat) (a_movedBelow : Nat) (x_undos : Int32) (x_length : Int32) (x_seenMany : Int32) (x_first : Int32) (x_behind : Int32) (x_readFacts : Int32) (x_readMembers : Int32) (x_readLeeches : Int32) (x_clauses : Int32) (x_doing : Int32) (x_hasNow : Int32) (x_knowsNow : Int32) (x_isOff : Int32) (x_sizes : Nat → Int32) (x_sorts : Nat → Int32) (n : Nat) (r_ret : Int32) (rm_moved : Nat → Int64) (rm_movedBelow : Nat → Int32) (rm_places : Nat → Int64) (rm_belows : Nat → Int32) (x_moved : Nat → Int64) (x_movedBelow : Nat → Int32) (x_places : Nat → Int64) (x_belows : Nat → Int32) (hr : fX8_copy_35 n x_sizes x_sorts x_moved x_movedBelow x_places x_belows = some (r_ret, rm_moved, rm_movedBelow, rm_places, rm_belows)) : GX8_copy p l e s m args below meth cd D c A a_this a_row a_isKept a_text a_seenMember a_seenMinutes a_seenFact a_seenKnew a_sizes a_sorts a_places a_belows a_clubWord a_factWord a_memberWord a_commonWord a_stripedWord a_greedyWord a_bishopWord a_muffWord a_onWord a_line a_bestLine a_moved a_movedBelow x_undos x_length x_seenMany x_first x_behind x_readFacts x_readMembers x_readLeeches x_clauses x_doing x_hasNow x_knowsNow x_isOff x_sizes x_sorts r_ret rm_moved rm_movedBelow rm_places rm_belows 35 [] [] x_moved x_movedBelow x_places x_belows := by
  have E1 := E0
  obtain ⟨hx, hb, hml, hret, hown, hts, hlocks, hA, hK⟩ := E1
  intro H locs ls hP hD hS hl
  unfold fX8_copy_35 at hr
  refine lv_bipush (v := (-11)) hx hb dX8_copy_35 (by decide) ?_
  have g0 := x_some hr
  have e0 := x_p1 g0
  have g1 := x_p2 g0
  have e1 := x_p1 g1
  have g2 := x_p2 g1
  have e2 := x_p1 g2
  have g3 := x_p2 g2
  have e3 := x_p1 g3
  have e4 := x_p2 g3
  subst e0
  subst e1
  subst e2
  subst e3
  subst e4
  exact x_reti hx hb hret hlocks hP hD hK hS dX8_copy_37
set_option maxHeartbeats 4000000 in
set_option maxRecDepth 100000 in
theorem kX8_copy_79 {p : Program} {l : Launch} {e : Env} {s : State} {m : MethodId} {args : Array Value} {below : List Frame} {meth : Method} {cd : Code} {D : va_G} {c : Nat → ClassId} {A : Nat → Prop} (E0 : xE p s m args meth cd D (xT c) A RX8 cX8_copy 7 (some .int) wsX8_copy) (a_this : Nat) (a_row : Nat) (a_isKept : Nat) (a_text : Nat) (a_seenMember : Nat) (a_seenMinutes : Nat) (a_seenFact : Nat) (a_seenKnew : Nat) (a_sizes : Nat) (a_sorts : Nat) (a_places : Nat) (a_belows : Nat) (a_clubWord : Nat) (a_factWord : Nat) (a_memberWord : Nat) (a_commonWord : Nat) (a_stripedWord : Nat) (a_greedyWord : Nat) (a_bishopWord : Nat) (a_muffWord : Nat) (a_onWord : Nat) (a_line : Nat) (a_bestLine : Nat) (a_moved : Nat) (a_movedBelow : Nat) (x_undos : Int32) (x_length : Int32) (x_seenMany : Int32) (x_first : Int32) (x_behind : Int32) (x_readFacts : Int32) (x_readMembers : Int32) (x_readLeeches : Int32) (x_clauses : Int32) (x_doing : Int32) (x_hasNow : Int32) (x_knowsNow : Int32) (x_isOff : Int32) (x_sizes : Nat → Int32) (x_sorts : Nat → Int32) (n : Nat) (r_ret : Int32) (rm_moved : Nat → Int64) (rm_movedBelow : Nat → Int32) (rm_places : Nat → Int64) (rm_belows : Nat → Int32) (x_moved : Nat → Int64) (x_movedBelow : Nat → Int32) (x_places : Nat → Int64) (x_belows : Nat → Int32) (hr : fX8_copy_79 n x_sizes x_sorts x_moved x_movedBelow x_places x_belows = some (r_ret, rm_moved, rm_movedBelow, rm_places, rm_belows)) : GX8_copy p l e s m args below meth cd D c A a_this a_row a_isKept a_text a_seenMember a_seenMinutes a_seenFact a_seenKnew a_sizes a_sorts a_places a_belows a_clubWord a_factWord a_memberWord a_commonWord a_stripedWord a_greedyWord a_bishopWord a_muffWord a_onWord a_line a_bestLine a_moved a_movedBelow x_undos x_length x_seenMany x_first x_behind x_readFacts x_readMembers x_readLeeches x_clauses x_doing x_hasNow x_knowsNow x_isOff x_sizes x_sorts r_ret rm_moved rm_movedBelow rm_places rm_belows 79 [] [] x_moved x_movedBelow x_places x_belows := by
  have E1 := E0
  obtain ⟨hx, hb, hml, hret, hown, hts, hlocks, hA, hK⟩ := E1
  intro H locs ls hP hD hS hl
  unfold fX8_copy_79 at hr
  refine lv_bipush (v := (-14)) hx hb dX8_copy_79 (by decide) ?_
  have g0 := x_some hr
  have e0 := x_p1 g0
  have g1 := x_p2 g0
  have e1 := x_p1 g1
  have g2 := x_p2 g1
  have e2 := x_p1 g2
  have g3 := x_p2 g2
  have e3 := x_p1 g3
  have e4 := x_p2 g3
  subst e0
  subst e1
  subst e2
  subst e3
  subst e4
  exact x_reti hx hb hret hlocks hP hD hK hS dX8_copy_81
set_option maxHeartbeats 4000000 in
set_option maxRecDepth 100000 in
theorem kX8_copy_143 {p : Program} {l : Launch} {e : Env} {s : State} {m : MethodId} {args : Array Value} {below : List Frame} {meth : Method} {cd : Code} {D : va_G} {c : Nat → ClassId} {A : Nat → Prop} (E0 : xE p s m args meth cd D (xT c) A RX8 cX8_copy 7 (some .int) wsX8_copy) (a_this : Nat) (a_row : Nat) (a_isKept : Nat) (a_text : Nat) (a_seenMember : Nat) (a_seenMinutes : Nat) (a_seenFact : Nat) (a_seenKnew : Nat) (a_sizes : Nat) (a_sorts : Nat) (a_places : Nat) (a_belows : Nat) (a_clubWord : Nat) (a_factWord : Nat) (a_memberWord : Nat) (a_commonWord : Nat) (a_stripedWord : Nat) (a_greedyWord : Nat) (a_bishopWord : Nat) (a_muffWord : Nat) (a_onWord : Nat) (a_line : Nat) (a_bestLine : Nat) (a_moved : Nat) (a_movedBelow : Nat) (x_undos : Int32) (x_length : Int32) (x_seenMany : Int32) (x_first : Int32) (x_behind : Int32) (x_readFacts : Int32) (x_readMembers : Int32) (x_readLeeches : Int32) (x_clauses : Int32) (x_doing : Int32) (x_hasNow : Int32) (x_knowsNow : Int32) (x_isOff : Int32) (x_sizes : Nat → Int32) (x_sorts : Nat → Int32) (n : Nat) (r_ret : Int32) (rm_moved : Nat → Int64) (rm_movedBelow : Nat → Int32) (rm_places : Nat → Int64) (rm_belows : Nat → Int32) : ∀ (k : Nat) (x_moved : Nat → Int64) (x_movedBelow : Nat → Int32) (x_places : Nat → Int64) (x_belows : Nat → Int32) (v3 : Int32) (v4 : Int32) (v5 : Int32) (v6 : Int32), fX8_copy_143 n x_sizes x_sorts k x_moved x_movedBelow x_places x_belows v3 v4 v5 v6 = some (r_ret, rm_moved, rm_movedBelow, rm_places, rm_belows) → GX8_copy p l e s m args below meth cd D c A a_this a_row a_isKept a_text a_seenMember a_seenMinutes a_seenFact a_seenKnew a_sizes a_sorts a_places a_belows a_clubWord a_factWord a_memberWord a_commonWord a_stripedWord a_greedyWord a_bishopWord a_muffWord a_onWord a_line a_bestLine a_moved a_movedBelow x_undos x_length x_seenMany x_first x_behind x_readFacts x_readMembers x_readLeeches x_clauses x_doing x_hasNow x_knowsNow x_isOff x_sizes x_sorts r_ret rm_moved rm_movedBelow rm_places rm_belows 143 [] [(0, .ref a_this), (3, .int v3), (4, .int v4), (5, .int v5), (6, .int v6)] x_moved x_movedBelow x_places x_belows := by
  have E1 := E0
  obtain ⟨hx, hb, hml, hret, hown, hts, hlocks, hA, hK⟩ := E1
  intro k
  induction k with
  | zero => intro x_moved x_movedBelow x_places x_belows v3 v4 v5 v6 hr; cases hr
  | succ k h_143 =>
    intro x_moved x_movedBelow x_places x_belows v3 v4 v5 v6 hr H locs ls hP hD hS hl
    unfold fX8_copy_143 at hr
    refine lv_iload hx hb dX8_copy_143 (lv_at hl 4 rfl) ?_
    refine lv_iload hx hb dX8_copy_145 (lv_at hl 3 rfl) ?_
    refine lv_icmp_ge (tgt := 200) hx hb dX8_copy_147 (by decide) (fun c_1 => ?_) (fun c_1 => ?_)
    · have hr := x_ift hr c_1
      refine lv_iload hx hb dX8_copy_200 (lv_at hl 3 rfl) ?_
      have g0 := x_some hr
      have e0 := x_p1 g0
      have g1 := x_p2 g0
      have e1 := x_p1 g1
      have g2 := x_p2 g1
      have e2 := x_p1 g2
      have g3 := x_p2 g2
      have e3 := x_p1 g3
      have e4 := x_p2 g3
      subst e0
      subst e1
      subst e2
      subst e3
      subst e4
      exact x_reti hx hb hret hlocks hP hD hK hS dX8_copy_202
    · have hr := x_iff hr c_1
      refine lv_aload_n hx hb dX8_copy_150 rfl (lv_at hl 0 rfl) ?_
      refine va_get (D := D) (ci := 8) (v := .ref a_places) (C := RX8) (T := TX8) (N := 37) hx hb hts inX8_copy_X8 hown hK hP 0 rfl rfl 12 (by decide) (hts _ lkX8_copy_f38) (fun _ h9 => h9) rfl dX8_copy_151 ?_
      refine lv_bipush (v := 10) hx hb dX8_copy_154 (by decide) ?_
      refine lv_iload_n hx hb dX8_copy_156 rfl (lv_at hl 1 rfl) ?_
      refine lv_imul hx hb dX8_copy_157 ?_
      refine lv_iload hx hb dX8_copy_158 (lv_at hl 2 rfl) ?_
      refine lv_iadd hx hb dX8_copy_160 ?_
      refine lv_iload hx hb dX8_copy_161 (lv_at hl 4 rfl) ?_
      refine lv_iadd hx hb dX8_copy_163 ?_
      refine lv_aload_n hx hb dX8_copy_164 rfl (lv_at hl 0 rfl) ?_
      refine va_get (D := D) (ci := 8) (v := .ref a_moved) (C := RX8) (T := TX8) (N := 37) hx hb hts inX8_copy_X8 hown hK hP 0 rfl rfl 35 (by decide) (hts _ lkX8_copy_f78) (fun _ h9 => h9) rfl dX8_copy_165 ?_
      refine lv_iload hx hb dX8_copy_168 (lv_at hl 4 rfl) ?_
      obtain ⟨b_2, hr⟩ := x_chk hr
      refine va_lald hx hb hK hP 4 1 rfl rfl b_2 dX8_copy_170 ?_
      obtain ⟨b_3, hr⟩ := x_chk hr
      refine va_last hx hb hK hP hD hS 3 1 rfl rfl b_3 dX8_copy_171 (fun H locs hP hD hS => ?_)
      have hP : va_P D vwCl [(a_this, .inr (8, [.ref a_row, .int x_undos, .ref a_isKept, .ref a_text, .int x_length, .int x_seenMany, .ref a_seenMember, .ref a_seenMinutes, .ref a_seenFact, .ref a_seenKnew, .ref a_sizes, .ref a_sorts, .ref a_places, .ref a_belows, .int x_first, .int x_behind, .int x_readFacts, .int x_readMembers, .int x_readLeeches, .int x_clauses, .int x_doing, .ref a_clubWord, .ref a_factWord, .ref a_memberWord, .ref a_commonWord, .ref a_stripedWord, .ref a_greedyWord, .ref a_bishopWord, .ref a_muffWord, .ref a_onWord, .int x_hasNow, .int x_knowsNow, .int x_isOff, .ref a_line, .ref a_bestLine, .ref a_moved, .ref a_movedBelow])), (a_sizes, .inl (c 0, 4, .inl x_sizes)), (a_sorts, .inl (c 0, 4, .inl x_sorts)), (a_places, .inl (c 1, 40, .inr (.inl (vp_updL x_places (((10 * v3) + v4) + v6).toNatClampNeg (x_moved v6.toNatClampNeg))))), (a_moved, .inl (c 1, 10, .inr (.inl x_moved))), (a_belows, .inl (c 0, 40, .inl x_belows)), (a_movedBelow, .inl (c 0, 10, .inl x_movedBelow))] H := hP
      have hD : va_D A [(a_this, .inr (8, [.ref a_row, .int x_undos, .ref a_isKept, .ref a_text, .int x_length, .int x_seenMany, .ref a_seenMember, .ref a_seenMinutes, .ref a_seenFact, .ref a_seenKnew, .ref a_sizes, .ref a_sorts, .ref a_places, .ref a_belows, .int x_first, .int x_behind, .int x_readFacts, .int x_readMembers, .int x_readLeeches, .int x_clauses, .int x_doing, .ref a_clubWord, .ref a_factWord, .ref a_memberWord, .ref a_commonWord, .ref a_stripedWord, .ref a_greedyWord, .ref a_bishopWord, .ref a_muffWord, .ref a_onWord, .int x_hasNow, .int x_knowsNow, .int x_isOff, .ref a_line, .ref a_bestLine, .ref a_moved, .ref a_movedBelow])), (a_sizes, .inl (c 0, 4, .inl x_sizes)), (a_sorts, .inl (c 0, 4, .inl x_sorts)), (a_places, .inl (c 1, 40, .inr (.inl (vp_updL x_places (((10 * v3) + v4) + v6).toNatClampNeg (x_moved v6.toNatClampNeg))))), (a_moved, .inl (c 1, 10, .inr (.inl x_moved))), (a_belows, .inl (c 0, 40, .inl x_belows)), (a_movedBelow, .inl (c 0, 10, .inl x_movedBelow))] := hD
      refine lv_aload_n hx hb dX8_copy_172 rfl (lv_at hl 0 rfl) ?_
      refine va_get (D := D) (ci := 8) (v := .ref a_belows) (C := RX8) (T := TX8) (N := 37) hx hb hts inX8_copy_X8 hown hK hP 0 rfl rfl 13 (by decide) (hts _ lkX8_copy_f42) (fun _ h9 => h9) rfl dX8_copy_173 ?_
      refine lv_bipush (v := 10) hx hb dX8_copy_176 (by decide) ?_
      refine lv_iload_n hx hb dX8_copy_178 rfl (lv_at hl 1 rfl) ?_
      refine lv_imul hx hb dX8_copy_179 ?_
      refine lv_iload hx hb dX8_copy_180 (lv_at hl 2 rfl) ?_
      refine lv_iadd hx hb dX8_copy_182 ?_
      refine lv_iload hx hb dX8_copy_183 (lv_at hl 4 rfl) ?_
      refine lv_iadd hx hb dX8_copy_185 ?_
      refine lv_aload_n hx hb dX8_copy_186 rfl (lv_at hl 0 rfl) ?_
      refine va_get (D := D) (ci := 8) (v := .ref a_movedBelow) (C := RX8) (T := TX8) (N := 37) hx hb hts inX8_copy_X8 hown hK hP 0 rfl rfl 36 (by decide) (hts _ lkX8_copy_f81) (fun _ h9 => h9) rfl dX8_copy_187 ?_
      refine lv_iload hx hb dX8_copy_190 (lv_at hl 4 rfl) ?_
      obtain ⟨b_4, hr⟩ := x_chk hr
      refine va_iald hx hb hK hP 6 0 rfl rfl b_4 dX8_copy_192 ?_
      obtain ⟨b_5, hr⟩ := x_chk hr
      refine va_iast hx hb hK hP hD hS 5 0 rfl rfl b_5 dX8_copy_193 (fun H locs hP hD hS => ?_)
      have hP : va_P D vwCl [(a_this, .inr (8, [.ref a_row, .int x_undos, .ref a_isKept, .ref a_text, .int x_length, .int x_seenMany, .ref a_seenMember, .ref a_seenMinutes, .ref a_seenFact, .ref a_seenKnew, .ref a_sizes, .ref a_sorts, .ref a_places, .ref a_belows, .int x_first, .int x_behind, .int x_readFacts, .int x_readMembers, .int x_readLeeches, .int x_clauses, .int x_doing, .ref a_clubWord, .ref a_factWord, .ref a_memberWord, .ref a_commonWord, .ref a_stripedWord, .ref a_greedyWord, .ref a_bishopWord, .ref a_muffWord, .ref a_onWord, .int x_hasNow, .int x_knowsNow, .int x_isOff, .ref a_line, .ref a_bestLine, .ref a_moved, .ref a_movedBelow])), (a_sizes, .inl (c 0, 4, .inl x_sizes)), (a_sorts, .inl (c 0, 4, .inl x_sorts)), (a_places, .inl (c 1, 40, .inr (.inl (vp_updL x_places (((10 * v3) + v4) + v6).toNatClampNeg (x_moved v6.toNatClampNeg))))), (a_moved, .inl (c 1, 10, .inr (.inl x_moved))), (a_belows, .inl (c 0, 40, .inl (upd x_belows (((10 * v3) + v4) + v6).toNatClampNeg (x_movedBelow v6.toNatClampNeg)))), (a_movedBelow, .inl (c 0, 10, .inl x_movedBelow))] H := hP
      have hD : va_D A [(a_this, .inr (8, [.ref a_row, .int x_undos, .ref a_isKept, .ref a_text, .int x_length, .int x_seenMany, .ref a_seenMember, .ref a_seenMinutes, .ref a_seenFact, .ref a_seenKnew, .ref a_sizes, .ref a_sorts, .ref a_places, .ref a_belows, .int x_first, .int x_behind, .int x_readFacts, .int x_readMembers, .int x_readLeeches, .int x_clauses, .int x_doing, .ref a_clubWord, .ref a_factWord, .ref a_memberWord, .ref a_commonWord, .ref a_stripedWord, .ref a_greedyWord, .ref a_bishopWord, .ref a_muffWord, .ref a_onWord, .int x_hasNow, .int x_knowsNow, .int x_isOff, .ref a_line, .ref a_bestLine, .ref a_moved, .ref a_movedBelow])), (a_sizes, .inl (c 0, 4, .inl x_sizes)), (a_sorts, .inl (c 0, 4, .inl x_sorts)), (a_places, .inl (c 1, 40, .inr (.inl (vp_updL x_places (((10 * v3) + v4) + v6).toNatClampNeg (x_moved v6.toNatClampNeg))))), (a_moved, .inl (c 1, 10, .inr (.inl x_moved))), (a_belows, .inl (c 0, 40, .inl (upd x_belows (((10 * v3) + v4) + v6).toNatClampNeg (x_movedBelow v6.toNatClampNeg)))), (a_movedBelow, .inl (c 0, 10, .inl x_movedBelow))] := hD
      refine lv_iinc (v := v6 + 1) (lv' := [(6, .int (v6 + 1)), (0, .ref a_this), (3, .int v3), (4, .int v4), (5, .int v5)]) hx hb dX8_copy_194 hl (k := 4) rfl rfl (by decide) rfl (fun ls hl => ?_)
      refine lv_goto (tgt := 143) hx hb dX8_copy_197 (by decide) ?_
      exact h_143 x_moved x_movedBelow (vp_updL x_places (((10 * v3) + v4) + v6).toNatClampNeg (x_moved v6.toNatClampNeg)) (upd x_belows (((10 * v3) + v4) + v6).toNatClampNeg (x_movedBelow v6.toNatClampNeg)) v3 v4 v5 (v6 + 1) hr H locs ls hP hD hS (lv_sub hl [1, 2, 3, 4, 0] rfl)
set_option maxHeartbeats 4000000 in
set_option maxRecDepth 100000 in
theorem kX8_copy_85 {p : Program} {l : Launch} {e : Env} {s : State} {m : MethodId} {args : Array Value} {below : List Frame} {meth : Method} {cd : Code} {D : va_G} {c : Nat → ClassId} {A : Nat → Prop} (E0 : xE p s m args meth cd D (xT c) A RX8 cX8_copy 7 (some .int) wsX8_copy) (a_this : Nat) (a_row : Nat) (a_isKept : Nat) (a_text : Nat) (a_seenMember : Nat) (a_seenMinutes : Nat) (a_seenFact : Nat) (a_seenKnew : Nat) (a_sizes : Nat) (a_sorts : Nat) (a_places : Nat) (a_belows : Nat) (a_clubWord : Nat) (a_factWord : Nat) (a_memberWord : Nat) (a_commonWord : Nat) (a_stripedWord : Nat) (a_greedyWord : Nat) (a_bishopWord : Nat) (a_muffWord : Nat) (a_onWord : Nat) (a_line : Nat) (a_bestLine : Nat) (a_moved : Nat) (a_movedBelow : Nat) (x_undos : Int32) (x_length : Int32) (x_seenMany : Int32) (x_first : Int32) (x_behind : Int32) (x_readFacts : Int32) (x_readMembers : Int32) (x_readLeeches : Int32) (x_clauses : Int32) (x_doing : Int32) (x_hasNow : Int32) (x_knowsNow : Int32) (x_isOff : Int32) (x_sizes : Nat → Int32) (x_sorts : Nat → Int32) (n : Nat) (r_ret : Int32) (rm_moved : Nat → Int64) (rm_movedBelow : Nat → Int32) (rm_places : Nat → Int64) (rm_belows : Nat → Int32) : ∀ (k : Nat) (x_moved : Nat → Int64) (x_movedBelow : Nat → Int32) (x_places : Nat → Int64) (x_belows : Nat → Int32) (v1 : Int32) (v2 : Int32) (v3 : Int32) (v4 : Int32) (v5 : Int32) (v6 : Int32), fX8_copy_85 n x_sizes x_sorts k x_moved x_movedBelow x_places x_belows v1 v2 v3 v4 v5 v6 = some (r_ret, rm_moved, rm_movedBelow, rm_places, rm_belows) → GX8_copy p l e s m args below meth cd D c A a_this a_row a_isKept a_text a_seenMember a_seenMinutes a_seenFact a_seenKnew a_sizes a_sorts a_places a_belows a_clubWord a_factWord a_memberWord a_commonWord a_stripedWord a_greedyWord a_bishopWord a_muffWord a_onWord a_line a_bestLine a_moved a_movedBelow x_undos x_length x_seenMany x_first x_behind x_readFacts x_readMembers x_readLeeches x_clauses x_doing x_hasNow x_knowsNow x_isOff x_sizes x_sorts r_ret rm_moved rm_movedBelow rm_places rm_belows 85 [] [(0, .ref a_this), (1, .int v1), (2, .int v2), (3, .int v3), (4, .int v4), (5, .int v5), (6, .int v6)] x_moved x_movedBelow x_places x_belows := by
  have E1 := E0
  obtain ⟨hx, hb, hml, hret, hown, hts, hlocks, hA, hK⟩ := E1
  intro k
  induction k with
  | zero => intro x_moved x_movedBelow x_places x_belows v1 v2 v3 v4 v5 v6 hr; cases hr
  | succ k h_85 =>
    intro x_moved x_movedBelow x_places x_belows v1 v2 v3 v4 v5 v6 hr H locs ls hP hD hS hl
    unfold fX8_copy_85 at hr
    refine lv_iload hx hb dX8_copy_85 (lv_at hl 6 rfl) ?_
    refine lv_iload hx hb dX8_copy_87 (lv_at hl 5 rfl) ?_
    refine lv_icmp_ge (tgt := 140) hx hb dX8_copy_89 (by decide) (fun c_1 => ?_) (fun c_1 => ?_)
    · have hr := x_ift hr c_1
      refine lv_iconst (v := 0) hx hb dX8_copy_140 (by decide) ?_
      refine lv_istore (lv' := [(6, .int 0), (0, .ref a_this), (1, .int v1), (2, .int v2), (3, .int v3), (4, .int v4), (5, .int v5)]) hx hb dX8_copy_141 hl (by decide) rfl (fun ls hl => ?_)
      exact kX8_copy_143 E0 a_this a_row a_isKept a_text a_seenMember a_seenMinutes a_seenFact a_seenKnew a_sizes a_sorts a_places a_belows a_clubWord a_factWord a_memberWord a_commonWord a_stripedWord a_greedyWord a_bishopWord a_muffWord a_onWord a_line a_bestLine a_moved a_movedBelow x_undos x_length x_seenMany x_first x_behind x_readFacts x_readMembers x_readLeeches x_clauses x_doing x_hasNow x_knowsNow x_isOff x_sizes x_sorts n r_ret rm_moved rm_movedBelow rm_places rm_belows n x_moved x_movedBelow x_places x_belows v3 v4 v5 0 hr H locs ls hP hD hS (lv_sub hl [1, 4, 5, 6, 0] rfl)
    · have hr := x_iff hr c_1
      refine lv_aload_n hx hb dX8_copy_92 rfl (lv_at hl 0 rfl) ?_
      refine va_get (D := D) (ci := 8) (v := .ref a_moved) (C := RX8) (T := TX8) (N := 37) hx hb hts inX8_copy_X8 hown hK hP 0 rfl rfl 35 (by decide) (hts _ lkX8_copy_f78) (fun _ h9 => h9) rfl dX8_copy_93 ?_
      refine lv_iload hx hb dX8_copy_96 (lv_at hl 6 rfl) ?_
      refine lv_aload_n hx hb dX8_copy_98 rfl (lv_at hl 0 rfl) ?_
      refine va_get (D := D) (ci := 8) (v := .ref a_places) (C := RX8) (T := TX8) (N := 37) hx hb hts inX8_copy_X8 hown hK hP 0 rfl rfl 12 (by decide) (hts _ lkX8_copy_f38) (fun _ h9 => h9) rfl dX8_copy_99 ?_
      refine lv_bipush (v := 10) hx hb dX8_copy_102 (by decide) ?_
      refine lv_iload_n hx hb dX8_copy_104 rfl (lv_at hl 1 rfl) ?_
      refine lv_imul hx hb dX8_copy_105 ?_
      refine lv_iload_n hx hb dX8_copy_106 rfl (lv_at hl 2 rfl) ?_
      refine lv_iadd hx hb dX8_copy_107 ?_
      refine lv_iload hx hb dX8_copy_108 (lv_at hl 6 rfl) ?_
      refine lv_iadd hx hb dX8_copy_110 ?_
      obtain ⟨b_2, hr⟩ := x_chk hr
      refine va_lald hx hb hK hP 3 1 rfl rfl b_2 dX8_copy_111 ?_
      obtain ⟨b_3, hr⟩ := x_chk hr
      refine va_last hx hb hK hP hD hS 4 1 rfl rfl b_3 dX8_copy_112 (fun H locs hP hD hS => ?_)
      have hP : va_P D vwCl [(a_this, .inr (8, [.ref a_row, .int x_undos, .ref a_isKept, .ref a_text, .int x_length, .int x_seenMany, .ref a_seenMember, .ref a_seenMinutes, .ref a_seenFact, .ref a_seenKnew, .ref a_sizes, .ref a_sorts, .ref a_places, .ref a_belows, .int x_first, .int x_behind, .int x_readFacts, .int x_readMembers, .int x_readLeeches, .int x_clauses, .int x_doing, .ref a_clubWord, .ref a_factWord, .ref a_memberWord, .ref a_commonWord, .ref a_stripedWord, .ref a_greedyWord, .ref a_bishopWord, .ref a_muffWord, .ref a_onWord, .int x_hasNow, .int x_knowsNow, .int x_isOff, .ref a_line, .ref a_bestLine, .ref a_moved, .ref a_movedBelow])), (a_sizes, .inl (c 0, 4, .inl x_sizes)), (a_sorts, .inl (c 0, 4, .inl x_sorts)), (a_places, .inl (c 1, 40, .inr (.inl x_places))), (a_moved, .inl (c 1, 10, .inr (.inl (vp_updL x_moved v6.toNatClampNeg (x_places (((10 * v1) + v2) + v6).toNatClampNeg))))), (a_belows, .inl (c 0, 40, .inl x_belows)), (a_movedBelow, .inl (c 0, 10, .inl x_movedBelow))] H := hP
      have hD : va_D A [(a_this, .inr (8, [.ref a_row, .int x_undos, .ref a_isKept, .ref a_text, .int x_length, .int x_seenMany, .ref a_seenMember, .ref a_seenMinutes, .ref a_seenFact, .ref a_seenKnew, .ref a_sizes, .ref a_sorts, .ref a_places, .ref a_belows, .int x_first, .int x_behind, .int x_readFacts, .int x_readMembers, .int x_readLeeches, .int x_clauses, .int x_doing, .ref a_clubWord, .ref a_factWord, .ref a_memberWord, .ref a_commonWord, .ref a_stripedWord, .ref a_greedyWord, .ref a_bishopWord, .ref a_muffWord, .ref a_onWord, .int x_hasNow, .int x_knowsNow, .int x_isOff, .ref a_line, .ref a_bestLine, .ref a_moved, .ref a_movedBelow])), (a_sizes, .inl (c 0, 4, .inl x_sizes)), (a_sorts, .inl (c 0, 4, .inl x_sorts)), (a_places, .inl (c 1, 40, .inr (.inl x_places))), (a_moved, .inl (c 1, 10, .inr (.inl (vp_updL x_moved v6.toNatClampNeg (x_places (((10 * v1) + v2) + v6).toNatClampNeg))))), (a_belows, .inl (c 0, 40, .inl x_belows)), (a_movedBelow, .inl (c 0, 10, .inl x_movedBelow))] := hD
      refine lv_aload_n hx hb dX8_copy_113 rfl (lv_at hl 0 rfl) ?_
      refine va_get (D := D) (ci := 8) (v := .ref a_movedBelow) (C := RX8) (T := TX8) (N := 37) hx hb hts inX8_copy_X8 hown hK hP 0 rfl rfl 36 (by decide) (hts _ lkX8_copy_f81) (fun _ h9 => h9) rfl dX8_copy_114 ?_
      refine lv_iload hx hb dX8_copy_117 (lv_at hl 6 rfl) ?_
      refine lv_aload_n hx hb dX8_copy_119 rfl (lv_at hl 0 rfl) ?_
      refine va_get (D := D) (ci := 8) (v := .ref a_belows) (C := RX8) (T := TX8) (N := 37) hx hb hts inX8_copy_X8 hown hK hP 0 rfl rfl 13 (by decide) (hts _ lkX8_copy_f42) (fun _ h9 => h9) rfl dX8_copy_120 ?_
      refine lv_bipush (v := 10) hx hb dX8_copy_123 (by decide) ?_
      refine lv_iload_n hx hb dX8_copy_125 rfl (lv_at hl 1 rfl) ?_
      refine lv_imul hx hb dX8_copy_126 ?_
      refine lv_iload_n hx hb dX8_copy_127 rfl (lv_at hl 2 rfl) ?_
      refine lv_iadd hx hb dX8_copy_128 ?_
      refine lv_iload hx hb dX8_copy_129 (lv_at hl 6 rfl) ?_
      refine lv_iadd hx hb dX8_copy_131 ?_
      obtain ⟨b_4, hr⟩ := x_chk hr
      refine va_iald hx hb hK hP 5 0 rfl rfl b_4 dX8_copy_132 ?_
      obtain ⟨b_5, hr⟩ := x_chk hr
      refine va_iast hx hb hK hP hD hS 6 0 rfl rfl b_5 dX8_copy_133 (fun H locs hP hD hS => ?_)
      have hP : va_P D vwCl [(a_this, .inr (8, [.ref a_row, .int x_undos, .ref a_isKept, .ref a_text, .int x_length, .int x_seenMany, .ref a_seenMember, .ref a_seenMinutes, .ref a_seenFact, .ref a_seenKnew, .ref a_sizes, .ref a_sorts, .ref a_places, .ref a_belows, .int x_first, .int x_behind, .int x_readFacts, .int x_readMembers, .int x_readLeeches, .int x_clauses, .int x_doing, .ref a_clubWord, .ref a_factWord, .ref a_memberWord, .ref a_commonWord, .ref a_stripedWord, .ref a_greedyWord, .ref a_bishopWord, .ref a_muffWord, .ref a_onWord, .int x_hasNow, .int x_knowsNow, .int x_isOff, .ref a_line, .ref a_bestLine, .ref a_moved, .ref a_movedBelow])), (a_sizes, .inl (c 0, 4, .inl x_sizes)), (a_sorts, .inl (c 0, 4, .inl x_sorts)), (a_places, .inl (c 1, 40, .inr (.inl x_places))), (a_moved, .inl (c 1, 10, .inr (.inl (vp_updL x_moved v6.toNatClampNeg (x_places (((10 * v1) + v2) + v6).toNatClampNeg))))), (a_belows, .inl (c 0, 40, .inl x_belows)), (a_movedBelow, .inl (c 0, 10, .inl (upd x_movedBelow v6.toNatClampNeg (x_belows (((10 * v1) + v2) + v6).toNatClampNeg))))] H := hP
      have hD : va_D A [(a_this, .inr (8, [.ref a_row, .int x_undos, .ref a_isKept, .ref a_text, .int x_length, .int x_seenMany, .ref a_seenMember, .ref a_seenMinutes, .ref a_seenFact, .ref a_seenKnew, .ref a_sizes, .ref a_sorts, .ref a_places, .ref a_belows, .int x_first, .int x_behind, .int x_readFacts, .int x_readMembers, .int x_readLeeches, .int x_clauses, .int x_doing, .ref a_clubWord, .ref a_factWord, .ref a_memberWord, .ref a_commonWord, .ref a_stripedWord, .ref a_greedyWord, .ref a_bishopWord, .ref a_muffWord, .ref a_onWord, .int x_hasNow, .int x_knowsNow, .int x_isOff, .ref a_line, .ref a_bestLine, .ref a_moved, .ref a_movedBelow])), (a_sizes, .inl (c 0, 4, .inl x_sizes)), (a_sorts, .inl (c 0, 4, .inl x_sorts)), (a_places, .inl (c 1, 40, .inr (.inl x_places))), (a_moved, .inl (c 1, 10, .inr (.inl (vp_updL x_moved v6.toNatClampNeg (x_places (((10 * v1) + v2) + v6).toNatClampNeg))))), (a_belows, .inl (c 0, 40, .inl x_belows)), (a_movedBelow, .inl (c 0, 10, .inl (upd x_movedBelow v6.toNatClampNeg (x_belows (((10 * v1) + v2) + v6).toNatClampNeg))))] := hD
      refine lv_iinc (v := v6 + 1) (lv' := [(6, .int (v6 + 1)), (0, .ref a_this), (1, .int v1), (2, .int v2), (3, .int v3), (4, .int v4), (5, .int v5)]) hx hb dX8_copy_134 hl (k := 6) rfl rfl (by decide) rfl (fun ls hl => ?_)
      refine lv_goto (tgt := 85) hx hb dX8_copy_137 (by decide) ?_
      exact h_85 (vp_updL x_moved v6.toNatClampNeg (x_places (((10 * v1) + v2) + v6).toNatClampNeg)) (upd x_movedBelow v6.toNatClampNeg (x_belows (((10 * v1) + v2) + v6).toNatClampNeg)) x_places x_belows v1 v2 v3 v4 v5 (v6 + 1) hr H locs ls hP hD hS (lv_sub hl [1, 2, 3, 4, 5, 6, 0] rfl)
set_option maxHeartbeats 4000000 in
set_option maxRecDepth 100000 in
theorem kX8_copy_0 {p : Program} {l : Launch} {e : Env} {s : State} {m : MethodId} {args : Array Value} {below : List Frame} {meth : Method} {cd : Code} {D : va_G} {c : Nat → ClassId} {A : Nat → Prop} (E0 : xE p s m args meth cd D (xT c) A RX8 cX8_copy 7 (some .int) wsX8_copy) (a_this : Nat) (a_row : Nat) (a_isKept : Nat) (a_text : Nat) (a_seenMember : Nat) (a_seenMinutes : Nat) (a_seenFact : Nat) (a_seenKnew : Nat) (a_sizes : Nat) (a_sorts : Nat) (a_places : Nat) (a_belows : Nat) (a_clubWord : Nat) (a_factWord : Nat) (a_memberWord : Nat) (a_commonWord : Nat) (a_stripedWord : Nat) (a_greedyWord : Nat) (a_bishopWord : Nat) (a_muffWord : Nat) (a_onWord : Nat) (a_line : Nat) (a_bestLine : Nat) (a_moved : Nat) (a_movedBelow : Nat) (x_undos : Int32) (x_length : Int32) (x_seenMany : Int32) (x_first : Int32) (x_behind : Int32) (x_readFacts : Int32) (x_readMembers : Int32) (x_readLeeches : Int32) (x_clauses : Int32) (x_doing : Int32) (x_hasNow : Int32) (x_knowsNow : Int32) (x_isOff : Int32) (x_sizes : Nat → Int32) (x_sorts : Nat → Int32) (n : Nat) (r_ret : Int32) (rm_moved : Nat → Int64) (rm_movedBelow : Nat → Int32) (rm_places : Nat → Int64) (rm_belows : Nat → Int32) (x_moved : Nat → Int64) (x_movedBelow : Nat → Int32) (x_places : Nat → Int64) (x_belows : Nat → Int32) (v1 : Int32) (v2 : Int32) (v3 : Int32) (v4 : Int32) (v5 : Int32) (hr : fX8_copy n x_sizes x_sorts x_moved x_movedBelow x_places x_belows v1 v2 v3 v4 v5 = some (r_ret, rm_moved, rm_movedBelow, rm_places, rm_belows)) : GX8_copy p l e s m args below meth cd D c A a_this a_row a_isKept a_text a_seenMember a_seenMinutes a_seenFact a_seenKnew a_sizes a_sorts a_places a_belows a_clubWord a_factWord a_memberWord a_commonWord a_stripedWord a_greedyWord a_bishopWord a_muffWord a_onWord a_line a_bestLine a_moved a_movedBelow x_undos x_length x_seenMany x_first x_behind x_readFacts x_readMembers x_readLeeches x_clauses x_doing x_hasNow x_knowsNow x_isOff x_sizes x_sorts r_ret rm_moved rm_movedBelow rm_places rm_belows 0 [] [(0, .ref a_this), (1, .int v1), (2, .int v2), (3, .int v3), (4, .int v4), (5, .int v5)] x_moved x_movedBelow x_places x_belows := by
  have E1 := E0
  obtain ⟨hx, hb, hml, hret, hown, hts, hlocks, hA, hK⟩ := E1
  intro H locs ls hP hD hS hl
  unfold fX8_copy at hr
  refine lv_iload_n hx hb dX8_copy_0 rfl (lv_at hl 1 rfl) ?_
  obtain ⟨q1_0, hc1, hr⟩ := x_bind hr
  refine x_runi (wr := [(a_this, .inr (8, [.ref a_row, .int x_undos, .ref a_isKept, .ref a_text, .int x_length, .int x_seenMany, .ref a_seenMember, .ref a_seenMinutes, .ref a_seenFact, .ref a_seenKnew, .ref a_sizes, .ref a_sorts, .ref a_places, .ref a_belows, .int x_first, .int x_behind, .int x_readFacts, .int x_readMembers, .int x_readLeeches, .int x_clauses, .int x_doing, .ref a_clubWord, .ref a_factWord, .ref a_memberWord, .ref a_commonWord, .ref a_stripedWord, .ref a_greedyWord, .ref a_bishopWord, .ref a_muffWord, .ref a_onWord, .int x_hasNow, .int x_knowsNow, .int x_isOff, .ref a_line, .ref a_bestLine, .ref a_moved, .ref a_movedBelow])), (a_sizes, .inl (c 0, 4, .inl x_sizes)), (a_sorts, .inl (c 0, 4, .inl x_sorts)), (a_places, .inl (c 1, 40, .inr (.inl x_places))), (a_moved, .inl (c 1, 10, .inr (.inl x_moved))), (a_belows, .inl (c 0, 40, .inl x_belows)), (a_movedBelow, .inl (c 0, 10, .inl x_movedBelow))]) (wf := [(a_this, .inr (8, [.ref a_row, .int x_undos, .ref a_isKept, .ref a_text, .int x_length, .int x_seenMany, .ref a_seenMember, .ref a_seenMinutes, .ref a_seenFact, .ref a_seenKnew, .ref a_sizes, .ref a_sorts, .ref a_places, .ref a_belows, .int x_first, .int x_behind, .int x_readFacts, .int x_readMembers, .int x_readLeeches, .int x_clauses, .int x_doing, .ref a_clubWord, .ref a_factWord, .ref a_memberWord, .ref a_commonWord, .ref a_stripedWord, .ref a_greedyWord, .ref a_bishopWord, .ref a_muffWord, .ref a_onWord, .int x_hasNow, .int x_knowsNow, .int x_isOff, .ref a_line, .ref a_bestLine, .ref a_moved, .ref a_movedBelow])), (a_sizes, .inl (c 0, 4, .inl x_sizes)), (a_sorts, .inl (c 0, 4, .inl x_sorts)), (a_places, .inl (c 1, 40, .inr (.inl x_places))), (a_moved, .inl (c 1, 10, .inr (.inl x_moved))), (a_belows, .inl (c 0, 40, .inl x_belows)), (a_movedBelow, .inl (c 0, 10, .inl x_movedBelow))]) (x_goS (As := [.int v1]) (rest := []) ⟨hx, hb, hml, hown, hts⟩ (mX8_isSlate l D c H.size v1 n _ hc1) (va_cwS 1 hts gX8_copy_X8_isSlate rfl rfl rfl (by decide +kernel) ⟨Nat.le_of_ble_eq_true rfl, Nat.le_of_ble_eq_true rfl⟩) xB_t hP hD hK [] rfl (by decide) (fun _ _ _ => trivial) rfl hl.1 rfl (Nat.le_of_ble_eq_true rfl) dX8_copy_1) hP hD hS hA [] [0, 1, 2, 3, 4, 5, 6] [0, 1, 2, 3, 4, 5, 6] rfl rfl rfl ⟨by decide, by decide, by decide⟩ (fun H locs hP hD hS => ?_)
  refine lv_if_eq (tgt := 14) hx hb dX8_copy_4 (by decide) (fun c_2 => ?_) (fun c_2 => ?_)
  · have hr := x_ift hr c_2
    exact kX8_copy_14 E0 a_this a_row a_isKept a_text a_seenMember a_seenMinutes a_seenFact a_seenKnew a_sizes a_sorts a_places a_belows a_clubWord a_factWord a_memberWord a_commonWord a_stripedWord a_greedyWord a_bishopWord a_muffWord a_onWord a_line a_bestLine a_moved a_movedBelow x_undos x_length x_seenMany x_first x_behind x_readFacts x_readMembers x_readLeeches x_clauses x_doing x_hasNow x_knowsNow x_isOff x_sizes x_sorts n r_ret rm_moved rm_movedBelow rm_places rm_belows x_moved x_movedBelow x_places x_belows hr H locs ls hP hD hS (lv_sub hl [] rfl)
  · have hr := x_iff hr c_2
    refine lv_iload_n hx hb dX8_copy_7 rfl (lv_at hl 3 rfl) ?_
    obtain ⟨q3_0, hc3, hr⟩ := x_bind hr
    refine x_runi (wr := [(a_this, .inr (8, [.ref a_row, .int x_undos, .ref a_isKept, .ref a_text, .int x_length, .int x_seenMany, .ref a_seenMember, .ref a_seenMinutes, .ref a_seenFact, .ref a_seenKnew, .ref a_sizes, .ref a_sorts, .ref a_places, .ref a_belows, .int x_first, .int x_behind, .int x_readFacts, .int x_readMembers, .int x_readLeeches, .int x_clauses, .int x_doing, .ref a_clubWord, .ref a_factWord, .ref a_memberWord, .ref a_commonWord, .ref a_stripedWord, .ref a_greedyWord, .ref a_bishopWord, .ref a_muffWord, .ref a_onWord, .int x_hasNow, .int x_knowsNow, .int x_isOff, .ref a_line, .ref a_bestLine, .ref a_moved, .ref a_movedBelow])), (a_sizes, .inl (c 0, 4, .inl x_sizes)), (a_sorts, .inl (c 0, 4, .inl x_sorts)), (a_places, .inl (c 1, 40, .inr (.inl x_places))), (a_moved, .inl (c 1, 10, .inr (.inl x_moved))), (a_belows, .inl (c 0, 40, .inl x_belows)), (a_movedBelow, .inl (c 0, 10, .inl x_movedBelow))]) (wf := [(a_this, .inr (8, [.ref a_row, .int x_undos, .ref a_isKept, .ref a_text, .int x_length, .int x_seenMany, .ref a_seenMember, .ref a_seenMinutes, .ref a_seenFact, .ref a_seenKnew, .ref a_sizes, .ref a_sorts, .ref a_places, .ref a_belows, .int x_first, .int x_behind, .int x_readFacts, .int x_readMembers, .int x_readLeeches, .int x_clauses, .int x_doing, .ref a_clubWord, .ref a_factWord, .ref a_memberWord, .ref a_commonWord, .ref a_stripedWord, .ref a_greedyWord, .ref a_bishopWord, .ref a_muffWord, .ref a_onWord, .int x_hasNow, .int x_knowsNow, .int x_isOff, .ref a_line, .ref a_bestLine, .ref a_moved, .ref a_movedBelow])), (a_sizes, .inl (c 0, 4, .inl x_sizes)), (a_sorts, .inl (c 0, 4, .inl x_sorts)), (a_places, .inl (c 1, 40, .inr (.inl x_places))), (a_moved, .inl (c 1, 10, .inr (.inl x_moved))), (a_belows, .inl (c 0, 40, .inl x_belows)), (a_movedBelow, .inl (c 0, 10, .inl x_movedBelow))]) (x_goS (As := [.int v3]) (rest := []) ⟨hx, hb, hml, hown, hts⟩ (mX8_isSlate l D c H.size v3 n _ hc3) (va_cwS 1 hts gX8_copy_X8_isSlate rfl rfl rfl (by decide +kernel) ⟨Nat.le_of_ble_eq_true rfl, Nat.le_of_ble_eq_true rfl⟩) xB_t hP hD hK [] rfl (by decide) (fun _ _ _ => trivial) rfl hl.1 rfl (Nat.le_of_ble_eq_true rfl) dX8_copy_8) hP hD hS hA [] [0, 1, 2, 3, 4, 5, 6] [0, 1, 2, 3, 4, 5, 6] rfl rfl rfl ⟨by decide, by decide, by decide⟩ (fun H locs hP hD hS => ?_)
    refine lv_if_ne (tgt := 17) hx hb dX8_copy_11 (by decide) (fun c_4 => ?_) (fun c_4 => ?_)
    · have hr := x_iff hr c_4
      refine lv_aload_n hx hb dX8_copy_17 rfl (lv_at hl 0 rfl) ?_
      refine va_get (D := D) (ci := 8) (v := .ref a_sizes) (C := RX8) (T := TX8) (N := 37) hx hb hts inX8_copy_X8 hown hK hP 0 rfl rfl 10 (by decide) (hts _ lkX8_copy_f32) (fun _ h9 => h9) rfl dX8_copy_18 ?_
      refine lv_iload_n hx hb dX8_copy_21 rfl (lv_at hl 1 rfl) ?_
      obtain ⟨b_5, hr⟩ := x_chk hr
      refine va_iald hx hb hK hP 1 0 rfl rfl b_5 dX8_copy_22 ?_
      refine lv_if_lt (tgt := 35) hx hb dX8_copy_23 (by decide) (fun c_6 => ?_) (fun c_6 => ?_)
      · have hr := x_ift hr c_6
        exact kX8_copy_35 E0 a_this a_row a_isKept a_text a_seenMember a_seenMinutes a_seenFact a_seenKnew a_sizes a_sorts a_places a_belows a_clubWord a_factWord a_memberWord a_commonWord a_stripedWord a_greedyWord a_bishopWord a_muffWord a_onWord a_line a_bestLine a_moved a_movedBelow x_undos x_length x_seenMany x_first x_behind x_readFacts x_readMembers x_readLeeches x_clauses x_doing x_hasNow x_knowsNow x_isOff x_sizes x_sorts n r_ret rm_moved rm_movedBelow rm_places rm_belows x_moved x_movedBelow x_places x_belows hr H locs ls hP hD hS (lv_sub hl [] rfl)
      · have hr := x_iff hr c_6
        refine lv_aload_n hx hb dX8_copy_26 rfl (lv_at hl 0 rfl) ?_
        refine va_get (D := D) (ci := 8) (v := .ref a_sizes) (C := RX8) (T := TX8) (N := 37) hx hb hts inX8_copy_X8 hown hK hP 0 rfl rfl 10 (by decide) (hts _ lkX8_copy_f32) (fun _ h9 => h9) rfl dX8_copy_27 ?_
        refine lv_iload_n hx hb dX8_copy_30 rfl (lv_at hl 3 rfl) ?_
        obtain ⟨b_7, hr⟩ := x_chk hr
        refine va_iald hx hb hK hP 1 0 rfl rfl b_7 dX8_copy_31 ?_
        refine lv_if_ge (tgt := 38) hx hb dX8_copy_32 (by decide) (fun c_8 => ?_) (fun c_8 => ?_)
        · have hr := x_ift hr c_8
          refine lv_aload_n hx hb dX8_copy_38 rfl (lv_at hl 0 rfl) ?_
          refine va_get (D := D) (ci := 8) (v := .ref a_sorts) (C := RX8) (T := TX8) (N := 37) hx hb hts inX8_copy_X8 hown hK hP 0 rfl rfl 11 (by decide) (hts _ lkX8_copy_f35) (fun _ h9 => h9) rfl dX8_copy_39 ?_
          refine lv_iload_n hx hb dX8_copy_42 rfl (lv_at hl 1 rfl) ?_
          obtain ⟨b_9, hr⟩ := x_chk hr
          refine va_iald hx hb hK hP 2 0 rfl rfl b_9 dX8_copy_43 ?_
          refine lv_aload_n hx hb dX8_copy_44 rfl (lv_at hl 0 rfl) ?_
          refine va_get (D := D) (ci := 8) (v := .ref a_sorts) (C := RX8) (T := TX8) (N := 37) hx hb hts inX8_copy_X8 hown hK hP 0 rfl rfl 11 (by decide) (hts _ lkX8_copy_f35) (fun _ h9 => h9) rfl dX8_copy_45 ?_
          refine lv_iload_n hx hb dX8_copy_48 rfl (lv_at hl 3 rfl) ?_
          obtain ⟨b_10, hr⟩ := x_chk hr
          refine va_iald hx hb hK hP 2 0 rfl rfl b_10 dX8_copy_49 ?_
          refine lv_icmp_eq (tgt := 56) hx hb dX8_copy_50 (by decide) (fun c_11 => ?_) (fun c_11 => ?_)
          · have hr := x_ift hr c_11
            refine lv_aload_n hx hb dX8_copy_56 rfl (lv_at hl 0 rfl) ?_
            refine lv_iload_n hx hb dX8_copy_57 rfl (lv_at hl 1 rfl) ?_
            refine lv_iload_n hx hb dX8_copy_58 rfl (lv_at hl 2 rfl) ?_
            refine lv_iload hx hb dX8_copy_59 (lv_at hl 5 rfl) ?_
            obtain ⟨q12_0, hc12, hr⟩ := x_bind hr
            refine x_runi (wr := [(a_sorts, .inl (c 0, 4, .inl x_sorts)), (a_places, .inl (c 1, 40, .inr (.inl x_places))), (a_moved, .inl (c 1, 10, .inr (.inl x_moved))), (a_belows, .inl (c 0, 40, .inl x_belows)), (a_movedBelow, .inl (c 0, 10, .inl x_movedBelow))]) (wf := [(a_this, .inr (8, [.ref a_row, .int x_undos, .ref a_isKept, .ref a_text, .int x_length, .int x_seenMany, .ref a_seenMember, .ref a_seenMinutes, .ref a_seenFact, .ref a_seenKnew, .ref a_sizes, .ref a_sorts, .ref a_places, .ref a_belows, .int x_first, .int x_behind, .int x_readFacts, .int x_readMembers, .int x_readLeeches, .int x_clauses, .int x_doing, .ref a_clubWord, .ref a_factWord, .ref a_memberWord, .ref a_commonWord, .ref a_stripedWord, .ref a_greedyWord, .ref a_bishopWord, .ref a_muffWord, .ref a_onWord, .int x_hasNow, .int x_knowsNow, .int x_isOff, .ref a_line, .ref a_bestLine, .ref a_moved, .ref a_movedBelow])), (a_sizes, .inl (c 0, 4, .inl x_sizes)), (a_sorts, .inl (c 0, 4, .inl x_sorts)), (a_places, .inl (c 1, 40, .inr (.inl x_places))), (a_moved, .inl (c 1, 10, .inr (.inl x_moved))), (a_belows, .inl (c 0, 40, .inl x_belows)), (a_movedBelow, .inl (c 0, 10, .inl x_movedBelow))]) (x_goV (As := [.int v1, .int v2, .int v5]) (rest := []) ⟨hx, hb, hml, hown, hts⟩ (mX8_isSpan l D c a_this a_row a_isKept a_text a_seenMember a_seenMinutes a_seenFact a_seenKnew a_sizes a_sorts a_places a_belows a_clubWord a_factWord a_memberWord a_commonWord a_stripedWord a_greedyWord a_bishopWord a_muffWord a_onWord a_line a_bestLine a_moved a_movedBelow H.size x_undos x_length x_seenMany x_first x_behind x_readFacts x_readMembers x_readLeeches x_clauses x_doing x_hasNow x_knowsNow x_isOff x_sizes v1 v2 v5 n _ hc12) (cwV 3 hts gX8_copy_X8_isSpan rfl rfl rfl (by decide +kernel) ⟨Nat.le_of_ble_eq_true rfl, Nat.le_of_ble_eq_true rfl⟩) xB_t hP hD hK [0, 1] rfl (by decide) (fun _ _ _ => trivial) 0 8 rfl rfl rfl rfl hl.1 rfl (Nat.le_of_ble_eq_true rfl) dX8_copy_61) hP hD hS hA [0, 1] [2, 3, 4, 5, 6] [5, 6, 0, 1, 2, 3, 4] rfl rfl rfl ⟨by decide, by decide, by decide⟩ (fun H locs hP hD hS => ?_)
            refine lv_if_eq (tgt := 79) hx hb dX8_copy_64 (by decide) (fun c_13 => ?_) (fun c_13 => ?_)
            · have hr := x_ift hr c_13
              exact kX8_copy_79 E0 a_this a_row a_isKept a_text a_seenMember a_seenMinutes a_seenFact a_seenKnew a_sizes a_sorts a_places a_belows a_clubWord a_factWord a_memberWord a_commonWord a_stripedWord a_greedyWord a_bishopWord a_muffWord a_onWord a_line a_bestLine a_moved a_movedBelow x_undos x_length x_seenMany x_first x_behind x_readFacts x_readMembers x_readLeeches x_clauses x_doing x_hasNow x_knowsNow x_isOff x_sizes x_sorts n r_ret rm_moved rm_movedBelow rm_places rm_belows x_moved x_movedBelow x_places x_belows hr H locs ls hP hD hS (lv_sub hl [] rfl)
            · have hr := x_iff hr c_13
              refine lv_aload_n hx hb dX8_copy_67 rfl (lv_at hl 0 rfl) ?_
              refine lv_iload_n hx hb dX8_copy_68 rfl (lv_at hl 3 rfl) ?_
              refine lv_iload hx hb dX8_copy_69 (lv_at hl 4 rfl) ?_
              refine lv_iload hx hb dX8_copy_71 (lv_at hl 5 rfl) ?_
              obtain ⟨q14_0, hc14, hr⟩ := x_bind hr
              refine x_runi (wr := [(a_sorts, .inl (c 0, 4, .inl x_sorts)), (a_places, .inl (c 1, 40, .inr (.inl x_places))), (a_moved, .inl (c 1, 10, .inr (.inl x_moved))), (a_belows, .inl (c 0, 40, .inl x_belows)), (a_movedBelow, .inl (c 0, 10, .inl x_movedBelow))]) (wf := [(a_this, .inr (8, [.ref a_row, .int x_undos, .ref a_isKept, .ref a_text, .int x_length, .int x_seenMany, .ref a_seenMember, .ref a_seenMinutes, .ref a_seenFact, .ref a_seenKnew, .ref a_sizes, .ref a_sorts, .ref a_places, .ref a_belows, .int x_first, .int x_behind, .int x_readFacts, .int x_readMembers, .int x_readLeeches, .int x_clauses, .int x_doing, .ref a_clubWord, .ref a_factWord, .ref a_memberWord, .ref a_commonWord, .ref a_stripedWord, .ref a_greedyWord, .ref a_bishopWord, .ref a_muffWord, .ref a_onWord, .int x_hasNow, .int x_knowsNow, .int x_isOff, .ref a_line, .ref a_bestLine, .ref a_moved, .ref a_movedBelow])), (a_sizes, .inl (c 0, 4, .inl x_sizes)), (a_sorts, .inl (c 0, 4, .inl x_sorts)), (a_places, .inl (c 1, 40, .inr (.inl x_places))), (a_moved, .inl (c 1, 10, .inr (.inl x_moved))), (a_belows, .inl (c 0, 40, .inl x_belows)), (a_movedBelow, .inl (c 0, 10, .inl x_movedBelow))]) (x_goV (As := [.int v3, .int v4, .int v5]) (rest := []) ⟨hx, hb, hml, hown, hts⟩ (mX8_isSpan l D c a_this a_row a_isKept a_text a_seenMember a_seenMinutes a_seenFact a_seenKnew a_sizes a_sorts a_places a_belows a_clubWord a_factWord a_memberWord a_commonWord a_stripedWord a_greedyWord a_bishopWord a_muffWord a_onWord a_line a_bestLine a_moved a_movedBelow H.size x_undos x_length x_seenMany x_first x_behind x_readFacts x_readMembers x_readLeeches x_clauses x_doing x_hasNow x_knowsNow x_isOff x_sizes v3 v4 v5 n _ hc14) (cwV 3 hts gX8_copy_X8_isSpan rfl rfl rfl (by decide +kernel) ⟨Nat.le_of_ble_eq_true rfl, Nat.le_of_ble_eq_true rfl⟩) xB_t hP hD hK [0, 1] rfl (by decide) (fun _ _ _ => trivial) 0 8 rfl rfl rfl rfl hl.1 rfl (Nat.le_of_ble_eq_true rfl) dX8_copy_73) hP hD hS hA [0, 1] [2, 3, 4, 5, 6] [5, 6, 0, 1, 2, 3, 4] rfl rfl rfl ⟨by decide, by decide, by decide⟩ (fun H locs hP hD hS => ?_)
              refine lv_if_ne (tgt := 82) hx hb dX8_copy_76 (by decide) (fun c_15 => ?_) (fun c_15 => ?_)
              · have hr := x_iff hr c_15
                refine lv_iconst (v := 0) hx hb dX8_copy_82 (by decide) ?_
                refine lv_istore (lv' := [(6, .int 0), (0, .ref a_this), (1, .int v1), (2, .int v2), (3, .int v3), (4, .int v4), (5, .int v5)]) hx hb dX8_copy_83 hl (by decide) rfl (fun ls hl => ?_)
                exact kX8_copy_85 E0 a_this a_row a_isKept a_text a_seenMember a_seenMinutes a_seenFact a_seenKnew a_sizes a_sorts a_places a_belows a_clubWord a_factWord a_memberWord a_commonWord a_stripedWord a_greedyWord a_bishopWord a_muffWord a_onWord a_line a_bestLine a_moved a_movedBelow x_undos x_length x_seenMany x_first x_behind x_readFacts x_readMembers x_readLeeches x_clauses x_doing x_hasNow x_knowsNow x_isOff x_sizes x_sorts n r_ret rm_moved rm_movedBelow rm_places rm_belows n x_moved x_movedBelow x_places x_belows v1 v2 v3 v4 v5 0 hr H locs ls hP hD hS (lv_sub hl [1, 2, 3, 4, 5, 6, 0] rfl)
              · have hr := x_ift hr c_15
                exact kX8_copy_79 E0 a_this a_row a_isKept a_text a_seenMember a_seenMinutes a_seenFact a_seenKnew a_sizes a_sorts a_places a_belows a_clubWord a_factWord a_memberWord a_commonWord a_stripedWord a_greedyWord a_bishopWord a_muffWord a_onWord a_line a_bestLine a_moved a_movedBelow x_undos x_length x_seenMany x_first x_behind x_readFacts x_readMembers x_readLeeches x_clauses x_doing x_hasNow x_knowsNow x_isOff x_sizes x_sorts n r_ret rm_moved rm_movedBelow rm_places rm_belows x_moved x_movedBelow x_places x_belows hr H locs ls hP hD hS (lv_sub hl [] rfl)
          · have hr := x_iff hr c_11
            refine lv_bipush (v := (-13)) hx hb dX8_copy_53 (by decide) ?_
            have g0 := x_some hr
            have e0 := x_p1 g0
            have g1 := x_p2 g0
            have e1 := x_p1 g1
            have g2 := x_p2 g1
            have e2 := x_p1 g2
            have g3 := x_p2 g2
            have e3 := x_p1 g3
            have e4 := x_p2 g3
            subst e0
            subst e1
            subst e2
            subst e3
            subst e4
            exact x_reti hx hb hret hlocks hP hD hK hS dX8_copy_55
        · have hr := x_iff hr c_8
          exact kX8_copy_35 E0 a_this a_row a_isKept a_text a_seenMember a_seenMinutes a_seenFact a_seenKnew a_sizes a_sorts a_places a_belows a_clubWord a_factWord a_memberWord a_commonWord a_stripedWord a_greedyWord a_bishopWord a_muffWord a_onWord a_line a_bestLine a_moved a_movedBelow x_undos x_length x_seenMany x_first x_behind x_readFacts x_readMembers x_readLeeches x_clauses x_doing x_hasNow x_knowsNow x_isOff x_sizes x_sorts n r_ret rm_moved rm_movedBelow rm_places rm_belows x_moved x_movedBelow x_places x_belows hr H locs ls hP hD hS (lv_sub hl [] rfl)
    · have hr := x_ift hr c_4
      exact kX8_copy_14 E0 a_this a_row a_isKept a_text a_seenMember a_seenMinutes a_seenFact a_seenKnew a_sizes a_sorts a_places a_belows a_clubWord a_factWord a_memberWord a_commonWord a_stripedWord a_greedyWord a_bishopWord a_muffWord a_onWord a_line a_bestLine a_moved a_movedBelow x_undos x_length x_seenMany x_first x_behind x_readFacts x_readMembers x_readLeeches x_clauses x_doing x_hasNow x_knowsNow x_isOff x_sizes x_sorts n r_ret rm_moved rm_movedBelow rm_places rm_belows x_moved x_movedBelow x_places x_belows hr H locs ls hP hD hS (lv_sub hl [] rfl)
set_option maxHeartbeats 4000000 in
set_option maxRecDepth 100000 in
theorem mX8_copy (l : Launch) (D : va_G) (c : Nat → ClassId) (a_this : Nat) (a_row : Nat) (a_isKept : Nat) (a_text : Nat) (a_seenMember : Nat) (a_seenMinutes : Nat) (a_seenFact : Nat) (a_seenKnew : Nat) (a_sizes : Nat) (a_sorts : Nat) (a_places : Nat) (a_belows : Nat) (a_clubWord : Nat) (a_factWord : Nat) (a_memberWord : Nat) (a_commonWord : Nat) (a_stripedWord : Nat) (a_greedyWord : Nat) (a_bishopWord : Nat) (a_muffWord : Nat) (a_onWord : Nat) (a_line : Nat) (a_bestLine : Nat) (a_moved : Nat) (a_movedBelow : Nat) (sz : Nat) (x_undos : Int32) (x_length : Int32) (x_seenMany : Int32) (x_first : Int32) (x_behind : Int32) (x_readFacts : Int32) (x_readMembers : Int32) (x_readLeeches : Int32) (x_clauses : Int32) (x_doing : Int32) (x_hasNow : Int32) (x_knowsNow : Int32) (x_isOff : Int32) (x_sizes : Nat → Int32) (x_sorts : Nat → Int32) (x_moved : Nat → Int64) (x_movedBelow : Nat → Int32) (x_places : Nat → Int64) (x_belows : Nat → Int32) (v1 : Int32) (v2 : Int32) (v3 : Int32) (v4 : Int32) (v5 : Int32) (n : Nat) (r_ret : Int32) (rm_moved : Nat → Int64) (rm_movedBelow : Nat → Int32) (rm_places : Nat → Int64) (rm_belows : Nat → Int32) (h : fX8_copy n x_sizes x_sorts x_moved x_movedBelow x_places x_belows v1 v2 v3 v4 v5 = some (r_ret, rm_moved, rm_movedBelow, rm_places, rm_belows)) : Met l yX8_copy wsX8_copy ({ frames := 2, cells := 0, slots := 0, locals := 45 } : Room) (xPc D (xT c) sz [.ref a_this, .int v1, .int v2, .int v3, .int v4, .int v5] (wX8_copy c a_this a_row a_isKept a_text a_seenMember a_seenMinutes a_seenFact a_seenKnew a_sizes a_sorts a_places a_belows a_clubWord a_factWord a_memberWord a_commonWord a_stripedWord a_greedyWord a_bishopWord a_muffWord a_onWord a_line a_bestLine a_moved a_movedBelow x_undos x_length x_seenMany x_first x_behind x_readFacts x_readMembers x_readLeeches x_clauses x_doing x_hasNow x_knowsNow x_isOff x_sizes x_sorts x_moved x_movedBelow x_places x_belows) (fun _ => True)) (xQi D (xT c) (va_A (wX8_copy c a_this a_row a_isKept a_text a_seenMember a_seenMinutes a_seenFact a_seenKnew a_sizes a_sorts a_places a_belows a_clubWord a_factWord a_memberWord a_commonWord a_stripedWord a_greedyWord a_bishopWord a_muffWord a_onWord a_line a_bestLine a_moved a_movedBelow x_undos x_length x_seenMany x_first x_behind x_readFacts x_readMembers x_readLeeches x_clauses x_doing x_hasNow x_knowsNow x_isOff x_sizes x_sorts x_moved x_movedBelow x_places x_belows) sz) r_ret (wX8_copy c a_this a_row a_isKept a_text a_seenMember a_seenMinutes a_seenFact a_seenKnew a_sizes a_sorts a_places a_belows a_clubWord a_factWord a_memberWord a_commonWord a_stripedWord a_greedyWord a_bishopWord a_muffWord a_onWord a_line a_bestLine a_moved a_movedBelow x_undos x_length x_seenMany x_first x_behind x_readFacts x_readMembers x_readLeeches x_clauses x_doing x_hasNow x_knowsNow x_isOff x_sizes x_sorts rm_moved rm_movedBelow rm_places rm_belows)) 0 0 (va_A (wX8_copy c a_this a_row a_isKept a_text a_seenMember a_seenMinutes a_seenFact a_seenKnew a_sizes a_sorts a_places a_belows a_clubWord a_factWord a_memberWord a_commonWord a_stripedWord a_greedyWord a_bishopWord a_muffWord a_onWord a_line a_bestLine a_moved a_movedBelow x_undos x_length x_seenMany x_first x_behind x_readFacts x_readMembers x_readLeeches x_clauses x_doing x_hasNow x_knowsNow x_isOff x_sizes x_sorts x_moved x_movedBelow x_places x_belows) sz) := by
  refine Met.ofW (cc := cX8_copy) (maxL := 7) (ret := (some .int)) (by decide) rfl ?_
  intro p e s m args below meth cd s₁ B hml hv
  obtain ⟨rfl, hsz, hP, hK, hD0, hV⟩ := hv
  subst hsz
  have hl := lv_entry [.ref a_this, .int v1, .int v2, .int v3, .int v4, .int v5] (n := 7) (Nat.le_of_ble_eq_true rfl)
  rw [lg_entry_eq]
  exact kX8_copy_0 (A := va_A (wX8_copy c a_this a_row a_isKept a_text a_seenMember a_seenMinutes a_seenFact a_seenKnew a_sizes a_sorts a_places a_belows a_clubWord a_factWord a_memberWord a_commonWord a_stripedWord a_greedyWord a_bishopWord a_muffWord a_onWord a_line a_bestLine a_moved a_movedBelow x_undos x_length x_seenMany x_first x_behind x_readFacts x_readMembers x_readLeeches x_clauses x_doing x_hasNow x_knowsNow x_isOff x_sizes x_sorts x_moved x_movedBelow x_places x_belows) s.heap.size) ⟨B.exec, B.bytes, hml, B.returns, findClass_of_methodNamed B.named, atoms_spec (ws := wsX8_copy) B.pre, B.notSynchronized, fun q h => Or.inr h, hK⟩ a_this a_row a_isKept a_text a_seenMember a_seenMinutes a_seenFact a_seenKnew a_sizes a_sorts a_places a_belows a_clubWord a_factWord a_memberWord a_commonWord a_stripedWord a_greedyWord a_bishopWord a_muffWord a_onWord a_line a_bestLine a_moved a_movedBelow x_undos x_length x_seenMany x_first x_behind x_readFacts x_readMembers x_readLeeches x_clauses x_doing x_hasNow x_knowsNow x_isOff x_sizes x_sorts n r_ret rm_moved rm_movedBelow rm_places rm_belows x_moved x_movedBelow x_places x_belows v1 v2 v3 v4 v5 h s.heap [] _ hP hD0.self va_S.rf hl

abbrev wX8_drop (c : Nat → ClassId) (a_this : Nat) (a_row : Nat) (a_isKept : Nat) (a_text : Nat) (a_seenMember : Nat) (a_seenMinutes : Nat) (a_seenFact : Nat) (a_seenKnew : Nat) (a_sizes : Nat) (a_sorts : Nat) (a_places : Nat) (a_belows : Nat) (a_clubWord : Nat) (a_factWord : Nat) (a_memberWord : Nat) (a_commonWord : Nat) (a_stripedWord : Nat) (a_greedyWord : Nat) (a_bishopWord : Nat) (a_muffWord : Nat) (a_onWord : Nat) (a_line : Nat) (a_bestLine : Nat) (a_moved : Nat) (a_movedBelow : Nat) (x_undos : Int32) (x_length : Int32) (x_seenMany : Int32) (x_first : Int32) (x_behind : Int32) (x_readFacts : Int32) (x_readMembers : Int32) (x_readLeeches : Int32) (x_clauses : Int32) (x_doing : Int32) (x_hasNow : Int32) (x_knowsNow : Int32) (x_isOff : Int32) (x_sizes : Nat → Int32) : va_W := [(a_this, .inr (8, [.ref a_row, .int x_undos, .ref a_isKept, .ref a_text, .int x_length, .int x_seenMany, .ref a_seenMember, .ref a_seenMinutes, .ref a_seenFact, .ref a_seenKnew, .ref a_sizes, .ref a_sorts, .ref a_places, .ref a_belows, .int x_first, .int x_behind, .int x_readFacts, .int x_readMembers, .int x_readLeeches, .int x_clauses, .int x_doing, .ref a_clubWord, .ref a_factWord, .ref a_memberWord, .ref a_commonWord, .ref a_stripedWord, .ref a_greedyWord, .ref a_bishopWord, .ref a_muffWord, .ref a_onWord, .int x_hasNow, .int x_knowsNow, .int x_isOff, .ref a_line, .ref a_bestLine, .ref a_moved, .ref a_movedBelow])), (a_sizes, .inl (c 0, 4, .inl x_sizes))]
def GX8_drop (p : Program) (l : Launch) (e : Env) (s : State) (m : MethodId) (args : Array Value) (below : List Frame) (meth : Method) (cd : Code) (D : va_G) (c : Nat → ClassId) (A : Nat → Prop) (a_this : Nat) (a_row : Nat) (a_isKept : Nat) (a_text : Nat) (a_seenMember : Nat) (a_seenMinutes : Nat) (a_seenFact : Nat) (a_seenKnew : Nat) (a_sizes : Nat) (a_sorts : Nat) (a_places : Nat) (a_belows : Nat) (a_clubWord : Nat) (a_factWord : Nat) (a_memberWord : Nat) (a_commonWord : Nat) (a_stripedWord : Nat) (a_greedyWord : Nat) (a_bishopWord : Nat) (a_muffWord : Nat) (a_onWord : Nat) (a_line : Nat) (a_bestLine : Nat) (a_moved : Nat) (a_movedBelow : Nat) (x_undos : Int32) (x_length : Int32) (x_seenMany : Int32) (x_first : Int32) (x_behind : Int32) (x_readFacts : Int32) (x_readMembers : Int32) (x_readLeeches : Int32) (x_clauses : Int32) (x_doing : Int32) (x_hasNow : Int32) (x_knowsNow : Int32) (x_isOff : Int32) (r_ret : Int32) (rm_sizes : Nat → Int32) (pc : Nat) (st : List Value) (loc : List (Nat × Value)) (x_sizes : Nat → Int32) : Prop :=
  ∀ (H : Heap) (locs : List Loc) (ls : Array Slot), va_P D vwCl (wX8_drop c a_this a_row a_isKept a_text a_seenMember a_seenMinutes a_seenFact a_seenKnew a_sizes a_sorts a_places a_belows a_clubWord a_factWord a_memberWord a_commonWord a_stripedWord a_greedyWord a_bishopWord a_muffWord a_onWord a_line a_bestLine a_moved a_movedBelow x_undos x_length x_seenMany x_first x_behind x_readFacts x_readMembers x_readLeeches x_clauses x_doing x_hasNow x_knowsNow x_isOff x_sizes) H → va_D A (wX8_drop c a_this a_row a_isKept a_text a_seenMember a_seenMinutes a_seenFact a_seenKnew a_sizes a_sorts a_places a_belows a_clubWord a_factWord a_memberWord a_commonWord a_stripedWord a_greedyWord a_bishopWord a_muffWord a_onWord a_line a_bestLine a_moved a_movedBelow x_undos x_length x_seenMany x_first x_behind x_readFacts x_readMembers x_readLeeches x_clauses x_doing x_hasNow x_knowsNow x_isOff x_sizes) → va_S A s.heap H locs → lv_has ls 3 loc → W p l e ({ frames := 2, cells := 0, slots := 0, locals := 45 } : Room) s m args below meth cd H locs 0 0 (MQ below (xQi D (xT c) A r_ret (wX8_drop c a_this a_row a_isKept a_text a_seenMember a_seenMinutes a_seenFact a_seenKnew a_sizes a_sorts a_places a_belows a_clubWord a_factWord a_memberWord a_commonWord a_stripedWord a_greedyWord a_bishopWord a_muffWord a_onWord a_line a_bestLine a_moved a_movedBelow x_undos x_length x_seenMany x_first x_behind x_readFacts x_readMembers x_readLeeches x_clauses x_doing x_hasNow x_knowsNow x_isOff rm_sizes)) args s 0 0 A) (F0 m pc ls st)
theorem lkX8_drop_f32 : Cond.fieldLink RX8 32 "LeechClubModel" "sizes" "[I" ∈ wsX8_drop := by decide +kernel
theorem inX8_drop_X8 : ∀ w ∈ wsX80, w ∈ wsX8_drop := by decide +kernel
set_option maxHeartbeats 4000000 in
set_option maxRecDepth 100000 in
theorem kX8_drop_0 {p : Program} {l : Launch} {e : Env} {s : State} {m : MethodId} {args : Array Value} {below : List Frame} {meth : Method} {cd : Code} {D : va_G} {c : Nat → ClassId} {A : Nat → Prop} (E0 : xE p s m args meth cd D (xT c) A RX8 cX8_drop 3 (some .int) wsX8_drop) (a_this : Nat) (a_row : Nat) (a_isKept : Nat) (a_text : Nat) (a_seenMember : Nat) (a_seenMinutes : Nat) (a_seenFact : Nat) (a_seenKnew : Nat) (a_sizes : Nat) (a_sorts : Nat) (a_places : Nat) (a_belows : Nat) (a_clubWord : Nat) (a_factWord : Nat) (a_memberWord : Nat) (a_commonWord : Nat) (a_stripedWord : Nat) (a_greedyWord : Nat) (a_bishopWord : Nat) (a_muffWord : Nat) (a_onWord : Nat) (a_line : Nat) (a_bestLine : Nat) (a_moved : Nat) (a_movedBelow : Nat) (x_undos : Int32) (x_length : Int32) (x_seenMany : Int32) (x_first : Int32) (x_behind : Int32) (x_readFacts : Int32) (x_readMembers : Int32) (x_readLeeches : Int32) (x_clauses : Int32) (x_doing : Int32) (x_hasNow : Int32) (x_knowsNow : Int32) (x_isOff : Int32) (n : Nat) (r_ret : Int32) (rm_sizes : Nat → Int32) (x_sizes : Nat → Int32) (v1 : Int32) (hr : fX8_drop n x_sizes v1 = some (r_ret, rm_sizes)) : GX8_drop p l e s m args below meth cd D c A a_this a_row a_isKept a_text a_seenMember a_seenMinutes a_seenFact a_seenKnew a_sizes a_sorts a_places a_belows a_clubWord a_factWord a_memberWord a_commonWord a_stripedWord a_greedyWord a_bishopWord a_muffWord a_onWord a_line a_bestLine a_moved a_movedBelow x_undos x_length x_seenMany x_first x_behind x_readFacts x_readMembers x_readLeeches x_clauses x_doing x_hasNow x_knowsNow x_isOff r_ret rm_sizes 0 [] [(0, .ref a_this), (1, .int v1)] x_sizes := by
  have E1 := E0
  obtain ⟨hx, hb, hml, hret, hown, hts, hlocks, hA, hK⟩ := E1
  intro H locs ls hP hD hS hl
  unfold fX8_drop at hr
  refine lv_iload_n hx hb dX8_drop_0 rfl (lv_at hl 1 rfl) ?_
  obtain ⟨q1_0, hc1, hr⟩ := x_bind hr
  refine x_runi (wr := [(a_this, .inr (8, [.ref a_row, .int x_undos, .ref a_isKept, .ref a_text, .int x_length, .int x_seenMany, .ref a_seenMember, .ref a_seenMinutes, .ref a_seenFact, .ref a_seenKnew, .ref a_sizes, .ref a_sorts, .ref a_places, .ref a_belows, .int x_first, .int x_behind, .int x_readFacts, .int x_readMembers, .int x_readLeeches, .int x_clauses, .int x_doing, .ref a_clubWord, .ref a_factWord, .ref a_memberWord, .ref a_commonWord, .ref a_stripedWord, .ref a_greedyWord, .ref a_bishopWord, .ref a_muffWord, .ref a_onWord, .int x_hasNow, .int x_knowsNow, .int x_isOff, .ref a_line, .ref a_bestLine, .ref a_moved, .ref a_movedBelow])), (a_sizes, .inl (c 0, 4, .inl x_sizes))]) (wf := [(a_this, .inr (8, [.ref a_row, .int x_undos, .ref a_isKept, .ref a_text, .int x_length, .int x_seenMany, .ref a_seenMember, .ref a_seenMinutes, .ref a_seenFact, .ref a_seenKnew, .ref a_sizes, .ref a_sorts, .ref a_places, .ref a_belows, .int x_first, .int x_behind, .int x_readFacts, .int x_readMembers, .int x_readLeeches, .int x_clauses, .int x_doing, .ref a_clubWord, .ref a_factWord, .ref a_memberWord, .ref a_commonWord, .ref a_stripedWord, .ref a_greedyWord, .ref a_bishopWord, .ref a_muffWord, .ref a_onWord, .int x_hasNow, .int x_knowsNow, .int x_isOff, .ref a_line, .ref a_bestLine, .ref a_moved, .ref a_movedBelow])), (a_sizes, .inl (c 0, 4, .inl x_sizes))]) (x_goS (As := [.int v1]) (rest := []) ⟨hx, hb, hml, hown, hts⟩ (mX8_isSlate l D c H.size v1 n _ hc1) (va_cwS 1 hts gX8_drop_X8_isSlate rfl rfl rfl (by decide +kernel) ⟨Nat.le_of_ble_eq_true rfl, Nat.le_of_ble_eq_true rfl⟩) xB_t hP hD hK [] rfl (by decide) (fun _ _ _ => trivial) rfl hl.1 rfl (Nat.le_of_ble_eq_true rfl) dX8_drop_1) hP hD hS hA [] [0, 1] [0, 1] rfl rfl rfl ⟨by decide, by decide, by decide⟩ (fun H locs hP hD hS => ?_)
  refine lv_if_ne (tgt := 10) hx hb dX8_drop_4 (by decide) (fun c_2 => ?_) (fun c_2 => ?_)
  · have hr := x_iff hr c_2
    refine lv_aload_n hx hb dX8_drop_10 rfl (lv_at hl 0 rfl) ?_
    refine va_get (D := D) (ci := 8) (v := .ref a_sizes) (C := RX8) (T := TX8) (N := 37) hx hb hts inX8_drop_X8 hown hK hP 0 rfl rfl 10 (by decide) (hts _ lkX8_drop_f32) (fun _ h9 => h9) rfl dX8_drop_11 ?_
    refine lv_iload_n hx hb dX8_drop_14 rfl (lv_at hl 1 rfl) ?_
    obtain ⟨b_3, hr⟩ := x_chk hr
    refine va_iald hx hb hK hP 1 0 rfl rfl b_3 dX8_drop_15 ?_
    refine lv_if_ge (tgt := 22) hx hb dX8_drop_16 (by decide) (fun c_4 => ?_) (fun c_4 => ?_)
    · have hr := x_ift hr c_4
      refine lv_aload_n hx hb dX8_drop_22 rfl (lv_at hl 0 rfl) ?_
      refine va_get (D := D) (ci := 8) (v := .ref a_sizes) (C := RX8) (T := TX8) (N := 37) hx hb hts inX8_drop_X8 hown hK hP 0 rfl rfl 10 (by decide) (hts _ lkX8_drop_f32) (fun _ h9 => h9) rfl dX8_drop_23 ?_
      refine lv_iload_n hx hb dX8_drop_26 rfl (lv_at hl 1 rfl) ?_
      obtain ⟨b_5, hr⟩ := x_chk hr
      refine va_iald hx hb hK hP 1 0 rfl rfl b_5 dX8_drop_27 ?_
      refine lv_istore_n (lv' := [(2, .int (x_sizes v1.toNatClampNeg)), (0, .ref a_this), (1, .int v1)]) hx hb dX8_drop_28 rfl hl (by decide) rfl (fun ls hl => ?_)
      refine lv_aload_n hx hb dX8_drop_29 rfl (lv_at hl 1 rfl) ?_
      refine va_get (D := D) (ci := 8) (v := .ref a_sizes) (C := RX8) (T := TX8) (N := 37) hx hb hts inX8_drop_X8 hown hK hP 0 rfl rfl 10 (by decide) (hts _ lkX8_drop_f32) (fun _ h9 => h9) rfl dX8_drop_30 ?_
      refine lv_iload_n hx hb dX8_drop_33 rfl (lv_at hl 2 rfl) ?_
      refine lv_iconst (v := (-1)) hx hb dX8_drop_34 (by decide) ?_
      obtain ⟨b_6, hr⟩ := x_chk hr
      refine va_iast hx hb hK hP hD hS 1 0 rfl rfl b_6 dX8_drop_35 (fun H locs hP hD hS => ?_)
      have hP : va_P D vwCl [(a_this, .inr (8, [.ref a_row, .int x_undos, .ref a_isKept, .ref a_text, .int x_length, .int x_seenMany, .ref a_seenMember, .ref a_seenMinutes, .ref a_seenFact, .ref a_seenKnew, .ref a_sizes, .ref a_sorts, .ref a_places, .ref a_belows, .int x_first, .int x_behind, .int x_readFacts, .int x_readMembers, .int x_readLeeches, .int x_clauses, .int x_doing, .ref a_clubWord, .ref a_factWord, .ref a_memberWord, .ref a_commonWord, .ref a_stripedWord, .ref a_greedyWord, .ref a_bishopWord, .ref a_muffWord, .ref a_onWord, .int x_hasNow, .int x_knowsNow, .int x_isOff, .ref a_line, .ref a_bestLine, .ref a_moved, .ref a_movedBelow])), (a_sizes, .inl (c 0, 4, .inl (upd x_sizes v1.toNatClampNeg (-1))))] H := hP
      have hD : va_D A [(a_this, .inr (8, [.ref a_row, .int x_undos, .ref a_isKept, .ref a_text, .int x_length, .int x_seenMany, .ref a_seenMember, .ref a_seenMinutes, .ref a_seenFact, .ref a_seenKnew, .ref a_sizes, .ref a_sorts, .ref a_places, .ref a_belows, .int x_first, .int x_behind, .int x_readFacts, .int x_readMembers, .int x_readLeeches, .int x_clauses, .int x_doing, .ref a_clubWord, .ref a_factWord, .ref a_memberWord, .ref a_commonWord, .ref a_stripedWord, .ref a_greedyWord, .ref a_bishopWord, .ref a_muffWord, .ref a_onWord, .int x_hasNow, .int x_knowsNow, .int x_isOff, .ref a_line, .ref a_bestLine, .ref a_moved, .ref a_movedBelow])), (a_sizes, .inl (c 0, 4, .inl (upd x_sizes v1.toNatClampNeg (-1))))] := hD
      refine lv_iload_n hx hb dX8_drop_36 rfl (lv_at hl 0 rfl) ?_
      have g0 := x_some hr
      have e0 := x_p1 g0
      have e1 := x_p2 g0
      subst e0
      subst e1
      exact x_reti hx hb hret hlocks hP hD hK hS dX8_drop_37
    · have hr := x_iff hr c_4
      refine lv_bipush (v := (-11)) hx hb dX8_drop_19 (by decide) ?_
      have g0 := x_some hr
      have e0 := x_p1 g0
      have e1 := x_p2 g0
      subst e0
      subst e1
      exact x_reti hx hb hret hlocks hP hD hK hS dX8_drop_21
  · have hr := x_ift hr c_2
    refine lv_bipush (v := (-2)) hx hb dX8_drop_7 (by decide) ?_
    have g0 := x_some hr
    have e0 := x_p1 g0
    have e1 := x_p2 g0
    subst e0
    subst e1
    exact x_reti hx hb hret hlocks hP hD hK hS dX8_drop_9
set_option maxHeartbeats 4000000 in
set_option maxRecDepth 100000 in
theorem mX8_drop (l : Launch) (D : va_G) (c : Nat → ClassId) (a_this : Nat) (a_row : Nat) (a_isKept : Nat) (a_text : Nat) (a_seenMember : Nat) (a_seenMinutes : Nat) (a_seenFact : Nat) (a_seenKnew : Nat) (a_sizes : Nat) (a_sorts : Nat) (a_places : Nat) (a_belows : Nat) (a_clubWord : Nat) (a_factWord : Nat) (a_memberWord : Nat) (a_commonWord : Nat) (a_stripedWord : Nat) (a_greedyWord : Nat) (a_bishopWord : Nat) (a_muffWord : Nat) (a_onWord : Nat) (a_line : Nat) (a_bestLine : Nat) (a_moved : Nat) (a_movedBelow : Nat) (sz : Nat) (x_undos : Int32) (x_length : Int32) (x_seenMany : Int32) (x_first : Int32) (x_behind : Int32) (x_readFacts : Int32) (x_readMembers : Int32) (x_readLeeches : Int32) (x_clauses : Int32) (x_doing : Int32) (x_hasNow : Int32) (x_knowsNow : Int32) (x_isOff : Int32) (x_sizes : Nat → Int32) (v1 : Int32) (n : Nat) (r_ret : Int32) (rm_sizes : Nat → Int32) (h : fX8_drop n x_sizes v1 = some (r_ret, rm_sizes)) : Met l yX8_drop wsX8_drop ({ frames := 2, cells := 0, slots := 0, locals := 45 } : Room) (xPc D (xT c) sz [.ref a_this, .int v1] (wX8_drop c a_this a_row a_isKept a_text a_seenMember a_seenMinutes a_seenFact a_seenKnew a_sizes a_sorts a_places a_belows a_clubWord a_factWord a_memberWord a_commonWord a_stripedWord a_greedyWord a_bishopWord a_muffWord a_onWord a_line a_bestLine a_moved a_movedBelow x_undos x_length x_seenMany x_first x_behind x_readFacts x_readMembers x_readLeeches x_clauses x_doing x_hasNow x_knowsNow x_isOff x_sizes) (fun _ => True)) (xQi D (xT c) (va_A (wX8_drop c a_this a_row a_isKept a_text a_seenMember a_seenMinutes a_seenFact a_seenKnew a_sizes a_sorts a_places a_belows a_clubWord a_factWord a_memberWord a_commonWord a_stripedWord a_greedyWord a_bishopWord a_muffWord a_onWord a_line a_bestLine a_moved a_movedBelow x_undos x_length x_seenMany x_first x_behind x_readFacts x_readMembers x_readLeeches x_clauses x_doing x_hasNow x_knowsNow x_isOff x_sizes) sz) r_ret (wX8_drop c a_this a_row a_isKept a_text a_seenMember a_seenMinutes a_seenFact a_seenKnew a_sizes a_sorts a_places a_belows a_clubWord a_factWord a_memberWord a_commonWord a_stripedWord a_greedyWord a_bishopWord a_muffWord a_onWord a_line a_bestLine a_moved a_movedBelow x_undos x_length x_seenMany x_first x_behind x_readFacts x_readMembers x_readLeeches x_clauses x_doing x_hasNow x_knowsNow x_isOff rm_sizes)) 0 0 (va_A (wX8_drop c a_this a_row a_isKept a_text a_seenMember a_seenMinutes a_seenFact a_seenKnew a_sizes a_sorts a_places a_belows a_clubWord a_factWord a_memberWord a_commonWord a_stripedWord a_greedyWord a_bishopWord a_muffWord a_onWord a_line a_bestLine a_moved a_movedBelow x_undos x_length x_seenMany x_first x_behind x_readFacts x_readMembers x_readLeeches x_clauses x_doing x_hasNow x_knowsNow x_isOff x_sizes) sz) := by
  refine Met.ofW (cc := cX8_drop) (maxL := 3) (ret := (some .int)) (by decide) rfl ?_
  intro p e s m args below meth cd s₁ B hml hv
  obtain ⟨rfl, hsz, hP, hK, hD0, hV⟩ := hv
  subst hsz
  have hl := lv_entry [.ref a_this, .int v1] (n := 3) (Nat.le_of_ble_eq_true rfl)
  rw [lg_entry_eq]
  exact kX8_drop_0 (A := va_A (wX8_drop c a_this a_row a_isKept a_text a_seenMember a_seenMinutes a_seenFact a_seenKnew a_sizes a_sorts a_places a_belows a_clubWord a_factWord a_memberWord a_commonWord a_stripedWord a_greedyWord a_bishopWord a_muffWord a_onWord a_line a_bestLine a_moved a_movedBelow x_undos x_length x_seenMany x_first x_behind x_readFacts x_readMembers x_readLeeches x_clauses x_doing x_hasNow x_knowsNow x_isOff x_sizes) s.heap.size) ⟨B.exec, B.bytes, hml, B.returns, findClass_of_methodNamed B.named, atoms_spec (ws := wsX8_drop) B.pre, B.notSynchronized, fun q h => Or.inr h, hK⟩ a_this a_row a_isKept a_text a_seenMember a_seenMinutes a_seenFact a_seenKnew a_sizes a_sorts a_places a_belows a_clubWord a_factWord a_memberWord a_commonWord a_stripedWord a_greedyWord a_bishopWord a_muffWord a_onWord a_line a_bestLine a_moved a_movedBelow x_undos x_length x_seenMany x_first x_behind x_readFacts x_readMembers x_readLeeches x_clauses x_doing x_hasNow x_knowsNow x_isOff n r_ret rm_sizes x_sizes v1 h s.heap [] _ hP hD0.self va_S.rf hl

