abbrev wX8_layTried (c : Nat → ClassId) (a_this : Nat) (a_row : Nat) (a_isKept : Nat) (a_text : Nat) (a_seenMember : Nat) (a_seenMinutes : Nat) (a_seenFact : Nat) (a_seenKnew : Nat) (a_sizes : Nat) (a_sorts : Nat) (a_places : Nat) (a_belows : Nat) (a_clubWord : Nat) (a_factWord : Nat) (a_memberWord : Nat) (a_commonWord : Nat) (a_stripedWord : Nat) (a_greedyWord : Nat) (a_bishopWord : Nat) (a_muffWord : Nat) (a_onWord : Nat) (a_line : Nat) (a_bestLine : Nat) (a_moved : Nat) (a_movedBelow : Nat) (x_undos : Int32) (x_length : Int32) (x_seenMany : Int32) (x_first : Int32) (x_behind : Int32) (x_readFacts : Int32) (x_readMembers : Int32) (x_readLeeches : Int32) (x_clauses : Int32) (x_doing : Int32) (x_row : Nat → Int32) (x_hasNow : Int32) (x_knowsNow : Int32) (x_isOff : Int32) : va_W := [(a_this, .inr (8, [.ref a_row, .int x_undos, .ref a_isKept, .ref a_text, .int x_length, .int x_seenMany, .ref a_seenMember, .ref a_seenMinutes, .ref a_seenFact, .ref a_seenKnew, .ref a_sizes, .ref a_sorts, .ref a_places, .ref a_belows, .int x_first, .int x_behind, .int x_readFacts, .int x_readMembers, .int x_readLeeches, .int x_clauses, .int x_doing, .ref a_clubWord, .ref a_factWord, .ref a_memberWord, .ref a_commonWord, .ref a_stripedWord, .ref a_greedyWord, .ref a_bishopWord, .ref a_muffWord, .ref a_onWord, .int x_hasNow, .int x_knowsNow, .int x_isOff, .ref a_line, .ref a_bestLine, .ref a_moved, .ref a_movedBelow])), (a_row, .inl (c 0, 624, .inl x_row))]
def GX8_layTried (p : Program) (l : Launch) (e : Env) (s : State) (m : MethodId) (args : Array Value) (below : List Frame) (meth : Method) (cd : Code) (D : va_G) (c : Nat → ClassId) (A : Nat → Prop) (a_this : Nat) (a_row : Nat) (a_isKept : Nat) (a_text : Nat) (a_seenMember : Nat) (a_seenMinutes : Nat) (a_seenFact : Nat) (a_seenKnew : Nat) (a_sizes : Nat) (a_sorts : Nat) (a_places : Nat) (a_belows : Nat) (a_clubWord : Nat) (a_factWord : Nat) (a_memberWord : Nat) (a_commonWord : Nat) (a_stripedWord : Nat) (a_greedyWord : Nat) (a_bishopWord : Nat) (a_muffWord : Nat) (a_onWord : Nat) (a_line : Nat) (a_bestLine : Nat) (a_moved : Nat) (a_movedBelow : Nat) (x_undos : Int32) (x_length : Int32) (x_seenMany : Int32) (x_first : Int32) (x_behind : Int32) (x_readFacts : Int32) (x_readMembers : Int32) (x_readLeeches : Int32) (x_clauses : Int32) (x_doing : Int32) (rm_row : Nat → Int32) (rm_hasNow : Int32) (rm_knowsNow : Int32) (rm_isOff : Int32) (pc : Nat) (st : List Value) (loc : List (Nat × Value)) (x_row : Nat → Int32) (x_hasNow : Int32) (x_knowsNow : Int32) (x_isOff : Int32) : Prop :=
  ∀ (H : Heap) (locs : List Loc) (ls : Array Slot), va_P D vwCl (wX8_layTried c a_this a_row a_isKept a_text a_seenMember a_seenMinutes a_seenFact a_seenKnew a_sizes a_sorts a_places a_belows a_clubWord a_factWord a_memberWord a_commonWord a_stripedWord a_greedyWord a_bishopWord a_muffWord a_onWord a_line a_bestLine a_moved a_movedBelow x_undos x_length x_seenMany x_first x_behind x_readFacts x_readMembers x_readLeeches x_clauses x_doing x_row x_hasNow x_knowsNow x_isOff) H → va_D A (wX8_layTried c a_this a_row a_isKept a_text a_seenMember a_seenMinutes a_seenFact a_seenKnew a_sizes a_sorts a_places a_belows a_clubWord a_factWord a_memberWord a_commonWord a_stripedWord a_greedyWord a_bishopWord a_muffWord a_onWord a_line a_bestLine a_moved a_movedBelow x_undos x_length x_seenMany x_first x_behind x_readFacts x_readMembers x_readLeeches x_clauses x_doing x_row x_hasNow x_knowsNow x_isOff) → va_S A s.heap H locs → lv_has ls 3 loc → W p l e ({ frames := 4, cells := 0, slots := 0, locals := 91 } : Room) s m args below meth cd H locs 0 0 (MQ below (xQv D (xT c) A (wX8_layTried c a_this a_row a_isKept a_text a_seenMember a_seenMinutes a_seenFact a_seenKnew a_sizes a_sorts a_places a_belows a_clubWord a_factWord a_memberWord a_commonWord a_stripedWord a_greedyWord a_bishopWord a_muffWord a_onWord a_line a_bestLine a_moved a_movedBelow x_undos x_length x_seenMany x_first x_behind x_readFacts x_readMembers x_readLeeches x_clauses x_doing rm_row rm_hasNow rm_knowsNow rm_isOff)) args s 0 0 A) (F0 m pc ls st)
set_option maxHeartbeats 4000000 in
set_option maxRecDepth 100000 in
theorem kX8_layTried_10 {p : Program} {l : Launch} {e : Env} {s : State} {m : MethodId} {args : Array Value} {below : List Frame} {meth : Method} {cd : Code} {D : va_G} {c : Nat → ClassId} {A : Nat → Prop} (E0 : xE p s m args meth cd D (xT c) A RX8 cX8_layTried 3 none wsX8_layTried) (a_this : Nat) (a_row : Nat) (a_isKept : Nat) (a_text : Nat) (a_seenMember : Nat) (a_seenMinutes : Nat) (a_seenFact : Nat) (a_seenKnew : Nat) (a_sizes : Nat) (a_sorts : Nat) (a_places : Nat) (a_belows : Nat) (a_clubWord : Nat) (a_factWord : Nat) (a_memberWord : Nat) (a_commonWord : Nat) (a_stripedWord : Nat) (a_greedyWord : Nat) (a_bishopWord : Nat) (a_muffWord : Nat) (a_onWord : Nat) (a_line : Nat) (a_bestLine : Nat) (a_moved : Nat) (a_movedBelow : Nat) (x_undos : Int32) (x_length : Int32) (x_seenMany : Int32) (x_first : Int32) (x_behind : Int32) (x_readFacts : Int32) (x_readMembers : Int32) (x_readLeeches : Int32) (x_clauses : Int32) (x_doing : Int32) (n : Nat) (rm_row : Nat → Int32) (rm_hasNow : Int32) (rm_knowsNow : Int32) (rm_isOff : Int32) : ∀ (k : Nat) (x_row : Nat → Int32) (x_hasNow : Int32) (x_knowsNow : Int32) (x_isOff : Int32) (v1 : Int32) (v2 : Int32), fX8_layTried_10 n k x_row x_hasNow x_knowsNow x_isOff v1 v2 = some (rm_row, rm_hasNow, rm_knowsNow, rm_isOff) → GX8_layTried p l e s m args below meth cd D c A a_this a_row a_isKept a_text a_seenMember a_seenMinutes a_seenFact a_seenKnew a_sizes a_sorts a_places a_belows a_clubWord a_factWord a_memberWord a_commonWord a_stripedWord a_greedyWord a_bishopWord a_muffWord a_onWord a_line a_bestLine a_moved a_movedBelow x_undos x_length x_seenMany x_first x_behind x_readFacts x_readMembers x_readLeeches x_clauses x_doing rm_row rm_hasNow rm_knowsNow rm_isOff 10 [] [(0, .ref a_this), (1, .int v1), (2, .int v2)] x_row x_hasNow x_knowsNow x_isOff := by
  have E1 := E0
  obtain ⟨hx, hb, hml, hret, hown, hts, hlocks, hA, hK⟩ := E1
  intro k
  induction k with
  | zero => intro x_row x_hasNow x_knowsNow x_isOff v1 v2 hr; cases hr
  | succ k h_10 =>
    intro x_row x_hasNow x_knowsNow x_isOff v1 v2 hr H locs ls hP hD hS hl
    unfold fX8_layTried_10 at hr
    refine lv_iload_n hx hb dX8_layTried_10 rfl (lv_at hl 2 rfl) ?_
    refine lv_iload_n hx hb dX8_layTried_11 rfl (lv_at hl 1 rfl) ?_
    refine lv_icmp_ge (tgt := 28) hx hb dX8_layTried_12 (by decide) (fun c_1 => ?_) (fun c_1 => ?_)
    · have hr := x_ift hr c_1
      have g0 := x_some hr
      have e0 := x_p1 g0
      have g1 := x_p2 g0
      have e1 := x_p1 g1
      have g2 := x_p2 g1
      have e2 := x_p1 g2
      have e3 := x_p2 g2
      subst e0
      subst e1
      subst e2
      subst e3
      exact x_retv hx hb hret hlocks hP hD hK hS dX8_layTried_28
    · have hr := x_iff hr c_1
      refine lv_aload_n hx hb dX8_layTried_15 rfl (lv_at hl 0 rfl) ?_
      refine lv_sipush (v := 576) hx hb dX8_layTried_16 (by decide) ?_
      obtain ⟨⟨q2_0, q2_1, q2_2, q2_3⟩, hc2, hr⟩ := x_bind hr
      try dsimp only at hr
      refine x_runv (wr := []) (wf := [(a_this, .inr (8, [.ref a_row, .int x_undos, .ref a_isKept, .ref a_text, .int x_length, .int x_seenMany, .ref a_seenMember, .ref a_seenMinutes, .ref a_seenFact, .ref a_seenKnew, .ref a_sizes, .ref a_sorts, .ref a_places, .ref a_belows, .int x_first, .int x_behind, .int x_readFacts, .int x_readMembers, .int x_readLeeches, .int x_clauses, .int x_doing, .ref a_clubWord, .ref a_factWord, .ref a_memberWord, .ref a_commonWord, .ref a_stripedWord, .ref a_greedyWord, .ref a_bishopWord, .ref a_muffWord, .ref a_onWord, .int q2_1, .int q2_2, .int q2_3, .ref a_line, .ref a_bestLine, .ref a_moved, .ref a_movedBelow])), (a_row, .inl (c 0, 624, .inl q2_0))]) (x_goV (As := [.int 576]) (rest := []) ⟨hx, hb, hml, hown, hts⟩ (mX8_passes l D c a_this a_row a_isKept a_text a_seenMember a_seenMinutes a_seenFact a_seenKnew a_sizes a_sorts a_places a_belows a_clubWord a_factWord a_memberWord a_commonWord a_stripedWord a_greedyWord a_bishopWord a_muffWord a_onWord a_line a_bestLine a_moved a_movedBelow H.size x_undos x_length x_seenMany x_first x_behind x_readFacts x_readMembers x_readLeeches x_clauses x_doing x_row x_hasNow x_knowsNow x_isOff 576 n _ _ _ _ hc2) (cwV 1 hts gX8_layTried_X8_passes rfl rfl rfl (by decide +kernel) ⟨Nat.le_of_ble_eq_true rfl, Nat.le_of_ble_eq_true rfl⟩) xB_t hP hD hK [0, 1] rfl (by decide) (fun _ _ _ => trivial) 0 8 rfl rfl rfl rfl hl.1 rfl (Nat.le_of_ble_eq_true rfl) dX8_layTried_19) hP hD hS hA [0, 1] [] [0, 1] rfl rfl rfl ⟨by decide, by decide, by decide⟩ (fun H locs hP hD hS => ?_)
      refine lv_iinc (v := v2 + 1) (lv' := [(2, .int (v2 + 1)), (0, .ref a_this), (1, .int v1)]) hx hb dX8_layTried_22 hl (k := 2) rfl rfl (by decide) rfl (fun ls hl => ?_)
      refine lv_goto (tgt := 10) hx hb dX8_layTried_25 (by decide) ?_
      exact h_10 q2_0 q2_1 q2_2 q2_3 v1 (v2 + 1) hr H locs ls hP hD hS (lv_sub hl [1, 2, 0] rfl)
set_option maxHeartbeats 4000000 in
set_option maxRecDepth 100000 in
theorem kX8_layTried_0 {p : Program} {l : Launch} {e : Env} {s : State} {m : MethodId} {args : Array Value} {below : List Frame} {meth : Method} {cd : Code} {D : va_G} {c : Nat → ClassId} {A : Nat → Prop} (E0 : xE p s m args meth cd D (xT c) A RX8 cX8_layTried 3 none wsX8_layTried) (a_this : Nat) (a_row : Nat) (a_isKept : Nat) (a_text : Nat) (a_seenMember : Nat) (a_seenMinutes : Nat) (a_seenFact : Nat) (a_seenKnew : Nat) (a_sizes : Nat) (a_sorts : Nat) (a_places : Nat) (a_belows : Nat) (a_clubWord : Nat) (a_factWord : Nat) (a_memberWord : Nat) (a_commonWord : Nat) (a_stripedWord : Nat) (a_greedyWord : Nat) (a_bishopWord : Nat) (a_muffWord : Nat) (a_onWord : Nat) (a_line : Nat) (a_bestLine : Nat) (a_moved : Nat) (a_movedBelow : Nat) (x_undos : Int32) (x_length : Int32) (x_seenMany : Int32) (x_first : Int32) (x_behind : Int32) (x_readFacts : Int32) (x_readMembers : Int32) (x_readLeeches : Int32) (x_clauses : Int32) (x_doing : Int32) (n : Nat) (rm_row : Nat → Int32) (rm_hasNow : Int32) (rm_knowsNow : Int32) (rm_isOff : Int32) (x_row : Nat → Int32) (x_hasNow : Int32) (x_knowsNow : Int32) (x_isOff : Int32) (v1 : Int32) (hr : fX8_layTried n x_row x_hasNow x_knowsNow x_isOff v1 = some (rm_row, rm_hasNow, rm_knowsNow, rm_isOff)) : GX8_layTried p l e s m args below meth cd D c A a_this a_row a_isKept a_text a_seenMember a_seenMinutes a_seenFact a_seenKnew a_sizes a_sorts a_places a_belows a_clubWord a_factWord a_memberWord a_commonWord a_stripedWord a_greedyWord a_bishopWord a_muffWord a_onWord a_line a_bestLine a_moved a_movedBelow x_undos x_length x_seenMany x_first x_behind x_readFacts x_readMembers x_readLeeches x_clauses x_doing rm_row rm_hasNow rm_knowsNow rm_isOff 0 [] [(0, .ref a_this), (1, .int v1)] x_row x_hasNow x_knowsNow x_isOff := by
  have E1 := E0
  obtain ⟨hx, hb, hml, hret, hown, hts, hlocks, hA, hK⟩ := E1
  intro H locs ls hP hD hS hl
  unfold fX8_layTried at hr
  refine lv_aload_n hx hb dX8_layTried_0 rfl (lv_at hl 0 rfl) ?_
  refine lv_iconst (v := 0) hx hb dX8_layTried_1 (by decide) ?_
  refine lv_sipush (v := 576) hx hb dX8_layTried_2 (by decide) ?_
  obtain ⟨q1_0, hc1, hr⟩ := x_bind hr
  refine x_runv (wr := []) (wf := [(a_this, .inr (8, [.ref a_row, .int x_undos, .ref a_isKept, .ref a_text, .int x_length, .int x_seenMany, .ref a_seenMember, .ref a_seenMinutes, .ref a_seenFact, .ref a_seenKnew, .ref a_sizes, .ref a_sorts, .ref a_places, .ref a_belows, .int x_first, .int x_behind, .int x_readFacts, .int x_readMembers, .int x_readLeeches, .int x_clauses, .int x_doing, .ref a_clubWord, .ref a_factWord, .ref a_memberWord, .ref a_commonWord, .ref a_stripedWord, .ref a_greedyWord, .ref a_bishopWord, .ref a_muffWord, .ref a_onWord, .int x_hasNow, .int x_knowsNow, .int x_isOff, .ref a_line, .ref a_bestLine, .ref a_moved, .ref a_movedBelow])), (a_row, .inl (c 0, 624, .inl q1_0))]) (x_goV (As := [.int 0, .int 576]) (rest := []) ⟨hx, hb, hml, hown, hts⟩ (mX8_copyClub l D c a_this a_row a_isKept a_text a_seenMember a_seenMinutes a_seenFact a_seenKnew a_sizes a_sorts a_places a_belows a_clubWord a_factWord a_memberWord a_commonWord a_stripedWord a_greedyWord a_bishopWord a_muffWord a_onWord a_line a_bestLine a_moved a_movedBelow H.size x_undos x_length x_seenMany x_first x_behind x_readFacts x_readMembers x_readLeeches x_clauses x_doing x_hasNow x_knowsNow x_isOff x_row 0 576 n _ hc1) (cwV 2 hts gX8_layTried_X8_copyClub rfl rfl rfl (by decide +kernel) ⟨Nat.le_of_ble_eq_true rfl, Nat.le_of_ble_eq_true rfl⟩) xB_t hP hD hK [0, 1] rfl (by decide) (fun _ _ _ => trivial) 0 8 rfl rfl rfl rfl hl.1 rfl (Nat.le_of_ble_eq_true rfl) dX8_layTried_5) hP hD hS hA [0, 1] [] [0, 1] rfl rfl rfl ⟨by decide, by decide, by decide⟩ (fun H locs hP hD hS => ?_)
  refine lv_iconst (v := 0) hx hb dX8_layTried_8 (by decide) ?_
  refine lv_istore_n (lv' := [(2, .int 0), (0, .ref a_this), (1, .int v1)]) hx hb dX8_layTried_9 rfl hl (by decide) rfl (fun ls hl => ?_)
  exact kX8_layTried_10 E0 a_this a_row a_isKept a_text a_seenMember a_seenMinutes a_seenFact a_seenKnew a_sizes a_sorts a_places a_belows a_clubWord a_factWord a_memberWord a_commonWord a_stripedWord a_greedyWord a_bishopWord a_muffWord a_onWord a_line a_bestLine a_moved a_movedBelow x_undos x_length x_seenMany x_first x_behind x_readFacts x_readMembers x_readLeeches x_clauses x_doing n rm_row rm_hasNow rm_knowsNow rm_isOff n q1_0 x_hasNow x_knowsNow x_isOff v1 0 hr H locs ls hP hD hS (lv_sub hl [1, 2, 0] rfl)
set_option maxHeartbeats 4000000 in
set_option maxRecDepth 100000 in
theorem mX8_layTried (l : Launch) (D : va_G) (c : Nat → ClassId) (a_this : Nat) (a_row : Nat) (a_isKept : Nat) (a_text : Nat) (a_seenMember : Nat) (a_seenMinutes : Nat) (a_seenFact : Nat) (a_seenKnew : Nat) (a_sizes : Nat) (a_sorts : Nat) (a_places : Nat) (a_belows : Nat) (a_clubWord : Nat) (a_factWord : Nat) (a_memberWord : Nat) (a_commonWord : Nat) (a_stripedWord : Nat) (a_greedyWord : Nat) (a_bishopWord : Nat) (a_muffWord : Nat) (a_onWord : Nat) (a_line : Nat) (a_bestLine : Nat) (a_moved : Nat) (a_movedBelow : Nat) (sz : Nat) (x_undos : Int32) (x_length : Int32) (x_seenMany : Int32) (x_first : Int32) (x_behind : Int32) (x_readFacts : Int32) (x_readMembers : Int32) (x_readLeeches : Int32) (x_clauses : Int32) (x_doing : Int32) (x_row : Nat → Int32) (x_hasNow : Int32) (x_knowsNow : Int32) (x_isOff : Int32) (v1 : Int32) (n : Nat) (rm_row : Nat → Int32) (rm_hasNow : Int32) (rm_knowsNow : Int32) (rm_isOff : Int32) (h : fX8_layTried n x_row x_hasNow x_knowsNow x_isOff v1 = some (rm_row, rm_hasNow, rm_knowsNow, rm_isOff)) : Met l yX8_layTried wsX8_layTried ({ frames := 4, cells := 0, slots := 0, locals := 91 } : Room) (xPc D (xT c) sz [.ref a_this, .int v1] (wX8_layTried c a_this a_row a_isKept a_text a_seenMember a_seenMinutes a_seenFact a_seenKnew a_sizes a_sorts a_places a_belows a_clubWord a_factWord a_memberWord a_commonWord a_stripedWord a_greedyWord a_bishopWord a_muffWord a_onWord a_line a_bestLine a_moved a_movedBelow x_undos x_length x_seenMany x_first x_behind x_readFacts x_readMembers x_readLeeches x_clauses x_doing x_row x_hasNow x_knowsNow x_isOff) (fun _ => True)) (xQv D (xT c) (va_A (wX8_layTried c a_this a_row a_isKept a_text a_seenMember a_seenMinutes a_seenFact a_seenKnew a_sizes a_sorts a_places a_belows a_clubWord a_factWord a_memberWord a_commonWord a_stripedWord a_greedyWord a_bishopWord a_muffWord a_onWord a_line a_bestLine a_moved a_movedBelow x_undos x_length x_seenMany x_first x_behind x_readFacts x_readMembers x_readLeeches x_clauses x_doing x_row x_hasNow x_knowsNow x_isOff) sz) (wX8_layTried c a_this a_row a_isKept a_text a_seenMember a_seenMinutes a_seenFact a_seenKnew a_sizes a_sorts a_places a_belows a_clubWord a_factWord a_memberWord a_commonWord a_stripedWord a_greedyWord a_bishopWord a_muffWord a_onWord a_line a_bestLine a_moved a_movedBelow x_undos x_length x_seenMany x_first x_behind x_readFacts x_readMembers x_readLeeches x_clauses x_doing rm_row rm_hasNow rm_knowsNow rm_isOff)) 0 0 (va_A (wX8_layTried c a_this a_row a_isKept a_text a_seenMember a_seenMinutes a_seenFact a_seenKnew a_sizes a_sorts a_places a_belows a_clubWord a_factWord a_memberWord a_commonWord a_stripedWord a_greedyWord a_bishopWord a_muffWord a_onWord a_line a_bestLine a_moved a_movedBelow x_undos x_length x_seenMany x_first x_behind x_readFacts x_readMembers x_readLeeches x_clauses x_doing x_row x_hasNow x_knowsNow x_isOff) sz) := by
  refine Met.ofW (cc := cX8_layTried) (maxL := 3) (ret := none) (by decide) rfl ?_
  intro p e s m args below meth cd s₁ B hml hv
  obtain ⟨rfl, hsz, hP, hK, hD0, hV⟩ := hv
  subst hsz
  have hl := lv_entry [.ref a_this, .int v1] (n := 3) (Nat.le_of_ble_eq_true rfl)
  rw [lg_entry_eq]
  exact kX8_layTried_0 (A := va_A (wX8_layTried c a_this a_row a_isKept a_text a_seenMember a_seenMinutes a_seenFact a_seenKnew a_sizes a_sorts a_places a_belows a_clubWord a_factWord a_memberWord a_commonWord a_stripedWord a_greedyWord a_bishopWord a_muffWord a_onWord a_line a_bestLine a_moved a_movedBelow x_undos x_length x_seenMany x_first x_behind x_readFacts x_readMembers x_readLeeches x_clauses x_doing x_row x_hasNow x_knowsNow x_isOff) s.heap.size) ⟨B.exec, B.bytes, hml, B.returns, findClass_of_methodNamed B.named, atoms_spec (ws := wsX8_layTried) B.pre, B.notSynchronized, fun q h => Or.inr h, hK⟩ a_this a_row a_isKept a_text a_seenMember a_seenMinutes a_seenFact a_seenKnew a_sizes a_sorts a_places a_belows a_clubWord a_factWord a_memberWord a_commonWord a_stripedWord a_greedyWord a_bishopWord a_muffWord a_onWord a_line a_bestLine a_moved a_movedBelow x_undos x_length x_seenMany x_first x_behind x_readFacts x_readMembers x_readLeeches x_clauses x_doing n rm_row rm_hasNow rm_knowsNow rm_isOff x_row x_hasNow x_knowsNow x_isOff v1 h s.heap [] _ hP hD0.self va_S.rf hl

abbrev wX8_ahead (c : Nat → ClassId) (a_this : Nat) (a_row : Nat) (a_isKept : Nat) (a_text : Nat) (a_seenMember : Nat) (a_seenMinutes : Nat) (a_seenFact : Nat) (a_seenKnew : Nat) (a_sizes : Nat) (a_sorts : Nat) (a_places : Nat) (a_belows : Nat) (a_clubWord : Nat) (a_factWord : Nat) (a_memberWord : Nat) (a_commonWord : Nat) (a_stripedWord : Nat) (a_greedyWord : Nat) (a_bishopWord : Nat) (a_muffWord : Nat) (a_onWord : Nat) (a_line : Nat) (a_bestLine : Nat) (a_moved : Nat) (a_movedBelow : Nat) (x_undos : Int32) (x_length : Int32) (x_seenMany : Int32) (x_first : Int32) (x_behind : Int32) (x_readFacts : Int32) (x_readMembers : Int32) (x_readLeeches : Int32) (x_clauses : Int32) (x_doing : Int32) (x_row : Nat → Int32) (x_hasNow : Int32) (x_knowsNow : Int32) (x_isOff : Int32) : va_W := [(a_this, .inr (8, [.ref a_row, .int x_undos, .ref a_isKept, .ref a_text, .int x_length, .int x_seenMany, .ref a_seenMember, .ref a_seenMinutes, .ref a_seenFact, .ref a_seenKnew, .ref a_sizes, .ref a_sorts, .ref a_places, .ref a_belows, .int x_first, .int x_behind, .int x_readFacts, .int x_readMembers, .int x_readLeeches, .int x_clauses, .int x_doing, .ref a_clubWord, .ref a_factWord, .ref a_memberWord, .ref a_commonWord, .ref a_stripedWord, .ref a_greedyWord, .ref a_bishopWord, .ref a_muffWord, .ref a_onWord, .int x_hasNow, .int x_knowsNow, .int x_isOff, .ref a_line, .ref a_bestLine, .ref a_moved, .ref a_movedBelow])), (a_row, .inl (c 0, 624, .inl x_row))]
def GX8_ahead (p : Program) (l : Launch) (e : Env) (s : State) (m : MethodId) (args : Array Value) (below : List Frame) (meth : Method) (cd : Code) (D : va_G) (c : Nat → ClassId) (A : Nat → Prop) (a_this : Nat) (a_row : Nat) (a_isKept : Nat) (a_text : Nat) (a_seenMember : Nat) (a_seenMinutes : Nat) (a_seenFact : Nat) (a_seenKnew : Nat) (a_sizes : Nat) (a_sorts : Nat) (a_places : Nat) (a_belows : Nat) (a_clubWord : Nat) (a_factWord : Nat) (a_memberWord : Nat) (a_commonWord : Nat) (a_stripedWord : Nat) (a_greedyWord : Nat) (a_bishopWord : Nat) (a_muffWord : Nat) (a_onWord : Nat) (a_line : Nat) (a_bestLine : Nat) (a_moved : Nat) (a_movedBelow : Nat) (x_undos : Int32) (x_length : Int32) (x_seenMany : Int32) (x_first : Int32) (x_behind : Int32) (x_readFacts : Int32) (x_readMembers : Int32) (x_readLeeches : Int32) (x_clauses : Int32) (x_doing : Int32) (r_ret : Int32) (rm_row : Nat → Int32) (rm_hasNow : Int32) (rm_knowsNow : Int32) (rm_isOff : Int32) (pc : Nat) (st : List Value) (loc : List (Nat × Value)) (x_row : Nat → Int32) (x_hasNow : Int32) (x_knowsNow : Int32) (x_isOff : Int32) : Prop :=
  ∀ (H : Heap) (locs : List Loc) (ls : Array Slot), va_P D vwCl (wX8_ahead c a_this a_row a_isKept a_text a_seenMember a_seenMinutes a_seenFact a_seenKnew a_sizes a_sorts a_places a_belows a_clubWord a_factWord a_memberWord a_commonWord a_stripedWord a_greedyWord a_bishopWord a_muffWord a_onWord a_line a_bestLine a_moved a_movedBelow x_undos x_length x_seenMany x_first x_behind x_readFacts x_readMembers x_readLeeches x_clauses x_doing x_row x_hasNow x_knowsNow x_isOff) H → va_D A (wX8_ahead c a_this a_row a_isKept a_text a_seenMember a_seenMinutes a_seenFact a_seenKnew a_sizes a_sorts a_places a_belows a_clubWord a_factWord a_memberWord a_commonWord a_stripedWord a_greedyWord a_bishopWord a_muffWord a_onWord a_line a_bestLine a_moved a_movedBelow x_undos x_length x_seenMany x_first x_behind x_readFacts x_readMembers x_readLeeches x_clauses x_doing x_row x_hasNow x_knowsNow x_isOff) → va_S A s.heap H locs → lv_has ls 3 loc → W p l e ({ frames := 5, cells := 0, slots := 0, locals := 113 } : Room) s m args below meth cd H locs 0 0 (MQ below (xQi D (xT c) A r_ret (wX8_ahead c a_this a_row a_isKept a_text a_seenMember a_seenMinutes a_seenFact a_seenKnew a_sizes a_sorts a_places a_belows a_clubWord a_factWord a_memberWord a_commonWord a_stripedWord a_greedyWord a_bishopWord a_muffWord a_onWord a_line a_bestLine a_moved a_movedBelow x_undos x_length x_seenMany x_first x_behind x_readFacts x_readMembers x_readLeeches x_clauses x_doing rm_row rm_hasNow rm_knowsNow rm_isOff)) args s 0 0 A) (F0 m pc ls st)
theorem lkX8_ahead_J248 : Cond.constantLong RX8 248 40 ∈ wsX8_ahead := by decide +kernel
theorem lkX8_ahead_f7 : Cond.fieldLink RX8 7 "LeechClubModel" "row" "[I" ∈ wsX8_ahead := by decide +kernel
theorem inX8_ahead_X8 : ∀ w ∈ wsX80, w ∈ wsX8_ahead := by decide +kernel
set_option maxHeartbeats 4000000 in
set_option maxRecDepth 100000 in
theorem kX8_ahead_0 {p : Program} {l : Launch} {e : Env} {s : State} {m : MethodId} {args : Array Value} {below : List Frame} {meth : Method} {cd : Code} {D : va_G} {c : Nat → ClassId} {A : Nat → Prop} (E0 : xE p s m args meth cd D (xT c) A RX8 cX8_ahead 3 (some .int) wsX8_ahead) (a_this : Nat) (a_row : Nat) (a_isKept : Nat) (a_text : Nat) (a_seenMember : Nat) (a_seenMinutes : Nat) (a_seenFact : Nat) (a_seenKnew : Nat) (a_sizes : Nat) (a_sorts : Nat) (a_places : Nat) (a_belows : Nat) (a_clubWord : Nat) (a_factWord : Nat) (a_memberWord : Nat) (a_commonWord : Nat) (a_stripedWord : Nat) (a_greedyWord : Nat) (a_bishopWord : Nat) (a_muffWord : Nat) (a_onWord : Nat) (a_line : Nat) (a_bestLine : Nat) (a_moved : Nat) (a_movedBelow : Nat) (x_undos : Int32) (x_length : Int32) (x_seenMany : Int32) (x_first : Int32) (x_behind : Int32) (x_readFacts : Int32) (x_readMembers : Int32) (x_readLeeches : Int32) (x_clauses : Int32) (x_doing : Int32) (n : Nat) (r_ret : Int32) (rm_row : Nat → Int32) (rm_hasNow : Int32) (rm_knowsNow : Int32) (rm_isOff : Int32) (x_row : Nat → Int32) (x_hasNow : Int32) (x_knowsNow : Int32) (x_isOff : Int32) (v1 : Int32) (v2 : Int32) (hr : fX8_ahead n x_row x_hasNow x_knowsNow x_isOff v1 v2 = some (r_ret, rm_row, rm_hasNow, rm_knowsNow, rm_isOff)) : GX8_ahead p l e s m args below meth cd D c A a_this a_row a_isKept a_text a_seenMember a_seenMinutes a_seenFact a_seenKnew a_sizes a_sorts a_places a_belows a_clubWord a_factWord a_memberWord a_commonWord a_stripedWord a_greedyWord a_bishopWord a_muffWord a_onWord a_line a_bestLine a_moved a_movedBelow x_undos x_length x_seenMany x_first x_behind x_readFacts x_readMembers x_readLeeches x_clauses x_doing r_ret rm_row rm_hasNow rm_knowsNow rm_isOff 0 [] [(0, .ref a_this), (1, .int v1), (2, .int v2)] x_row x_hasNow x_knowsNow x_isOff := by
  have E1 := E0
  obtain ⟨hx, hb, hml, hret, hown, hts, hlocks, hA, hK⟩ := E1
  intro H locs ls hP hD hS hl
  unfold fX8_ahead at hr
  refine lv_aload_n hx hb dX8_ahead_0 rfl (lv_at hl 0 rfl) ?_
  refine lv_iload_n hx hb dX8_ahead_1 rfl (lv_at hl 1 rfl) ?_
  obtain ⟨q1_0, hc1, hr⟩ := x_bind hr
  refine x_runi (wr := []) (wf := [(a_this, .inr (8, [.ref a_row, .int x_undos, .ref a_isKept, .ref a_text, .int x_length, .int x_seenMany, .ref a_seenMember, .ref a_seenMinutes, .ref a_seenFact, .ref a_seenKnew, .ref a_sizes, .ref a_sorts, .ref a_places, .ref a_belows, .int x_first, .int x_behind, .int x_readFacts, .int x_readMembers, .int x_readLeeches, .int x_clauses, .int x_doing, .ref a_clubWord, .ref a_factWord, .ref a_memberWord, .ref a_commonWord, .ref a_stripedWord, .ref a_greedyWord, .ref a_bishopWord, .ref a_muffWord, .ref a_onWord, .int x_hasNow, .int x_knowsNow, .int x_isOff, .ref a_line, .ref a_bestLine, .ref a_moved, .ref a_movedBelow])), (a_row, .inl (c 0, 624, .inl x_row))]) (x_goV (As := [.int v1]) (rest := []) ⟨hx, hb, hml, hown, hts⟩ (mX8_isMember l D c a_this a_row a_isKept a_text a_seenMember a_seenMinutes a_seenFact a_seenKnew a_sizes a_sorts a_places a_belows a_clubWord a_factWord a_memberWord a_commonWord a_stripedWord a_greedyWord a_bishopWord a_muffWord a_onWord a_line a_bestLine a_moved a_movedBelow H.size x_undos x_length x_seenMany x_first x_behind x_readFacts x_readMembers x_readLeeches x_clauses x_doing x_hasNow x_knowsNow x_isOff x_row v1 n _ hc1) (cwV 1 hts gX8_ahead_X8_isMember rfl rfl rfl (by decide +kernel) ⟨Nat.le_of_ble_eq_true rfl, Nat.le_of_ble_eq_true rfl⟩) xB_t hP hD hK [0, 1] rfl (by decide) (fun _ _ _ => trivial) 0 8 rfl rfl rfl rfl hl.1 rfl (Nat.le_of_ble_eq_true rfl) dX8_ahead_2) hP hD hS hA [0, 1] [] [0, 1] rfl rfl rfl ⟨by decide, by decide, by decide⟩ (fun H locs hP hD hS => ?_)
  refine lv_if_ne (tgt := 11) hx hb dX8_ahead_5 (by decide) (fun c_2 => ?_) (fun c_2 => ?_)
  · have hr := x_iff hr c_2
    refine lv_iload_n hx hb dX8_ahead_11 rfl (lv_at hl 2 rfl) ?_
    refine lv_i2l hx hb dX8_ahead_12 rfl ?_
    refine lv_lconst (v := 0) hx hb dX8_ahead_13 (by decide) ?_
    refine lv_ldc2 hx hb hown (hts _ lkX8_ahead_J248) dX8_ahead_14 ?_
    obtain ⟨q3_0, hc3, hr⟩ := x_bind hr
    refine x_runi (wr := [(a_this, .inr (8, [.ref a_row, .int x_undos, .ref a_isKept, .ref a_text, .int x_length, .int x_seenMany, .ref a_seenMember, .ref a_seenMinutes, .ref a_seenFact, .ref a_seenKnew, .ref a_sizes, .ref a_sorts, .ref a_places, .ref a_belows, .int x_first, .int x_behind, .int x_readFacts, .int x_readMembers, .int x_readLeeches, .int x_clauses, .int x_doing, .ref a_clubWord, .ref a_factWord, .ref a_memberWord, .ref a_commonWord, .ref a_stripedWord, .ref a_greedyWord, .ref a_bishopWord, .ref a_muffWord, .ref a_onWord, .int x_hasNow, .int x_knowsNow, .int x_isOff, .ref a_line, .ref a_bestLine, .ref a_moved, .ref a_movedBelow])), (a_row, .inl (c 0, 624, .inl x_row))]) (wf := [(a_this, .inr (8, [.ref a_row, .int x_undos, .ref a_isKept, .ref a_text, .int x_length, .int x_seenMany, .ref a_seenMember, .ref a_seenMinutes, .ref a_seenFact, .ref a_seenKnew, .ref a_sizes, .ref a_sorts, .ref a_places, .ref a_belows, .int x_first, .int x_behind, .int x_readFacts, .int x_readMembers, .int x_readLeeches, .int x_clauses, .int x_doing, .ref a_clubWord, .ref a_factWord, .ref a_memberWord, .ref a_commonWord, .ref a_stripedWord, .ref a_greedyWord, .ref a_bishopWord, .ref a_muffWord, .ref a_onWord, .int x_hasNow, .int x_knowsNow, .int x_isOff, .ref a_line, .ref a_bestLine, .ref a_moved, .ref a_movedBelow])), (a_row, .inl (c 0, 624, .inl x_row))]) (x_goS (As := [.long v2.toInt64, .long 0, .long 40]) (rest := []) ⟨hx, hb, hml, hown, hts⟩ (mX8_in l D c H.size v2.toInt64 0 40 n _ hc3) (va_cwS 3 hts gX8_ahead_X8_in rfl rfl rfl (by decide +kernel) ⟨Nat.le_of_ble_eq_true rfl, Nat.le_of_ble_eq_true rfl⟩) xB_t hP hD hK [] rfl (by decide) (fun _ _ _ => trivial) rfl hl.1 rfl (Nat.le_of_ble_eq_true rfl) dX8_ahead_17) hP hD hS hA [] [0, 1] [0, 1] rfl rfl rfl ⟨by decide, by decide, by decide⟩ (fun H locs hP hD hS => ?_)
    refine lv_if_ne (tgt := 26) hx hb dX8_ahead_20 (by decide) (fun c_4 => ?_) (fun c_4 => ?_)
    · have hr := x_iff hr c_4
      refine lv_aload_n hx hb dX8_ahead_26 rfl (lv_at hl 0 rfl) ?_
      refine lv_iload_n hx hb dX8_ahead_27 rfl (lv_at hl 2 rfl) ?_
      obtain ⟨⟨q5_0, q5_1, q5_2, q5_3⟩, hc5, hr⟩ := x_bind hr
      try dsimp only at hr
      refine x_runv (wr := []) (wf := [(a_this, .inr (8, [.ref a_row, .int x_undos, .ref a_isKept, .ref a_text, .int x_length, .int x_seenMany, .ref a_seenMember, .ref a_seenMinutes, .ref a_seenFact, .ref a_seenKnew, .ref a_sizes, .ref a_sorts, .ref a_places, .ref a_belows, .int x_first, .int x_behind, .int x_readFacts, .int x_readMembers, .int x_readLeeches, .int x_clauses, .int x_doing, .ref a_clubWord, .ref a_factWord, .ref a_memberWord, .ref a_commonWord, .ref a_stripedWord, .ref a_greedyWord, .ref a_bishopWord, .ref a_muffWord, .ref a_onWord, .int q5_1, .int q5_2, .int q5_3, .ref a_line, .ref a_bestLine, .ref a_moved, .ref a_movedBelow])), (a_row, .inl (c 0, 624, .inl q5_0))]) (x_goV (As := [.int v2]) (rest := []) ⟨hx, hb, hml, hown, hts⟩ (mX8_layTried l D c a_this a_row a_isKept a_text a_seenMember a_seenMinutes a_seenFact a_seenKnew a_sizes a_sorts a_places a_belows a_clubWord a_factWord a_memberWord a_commonWord a_stripedWord a_greedyWord a_bishopWord a_muffWord a_onWord a_line a_bestLine a_moved a_movedBelow H.size x_undos x_length x_seenMany x_first x_behind x_readFacts x_readMembers x_readLeeches x_clauses x_doing x_row x_hasNow x_knowsNow x_isOff v2 n _ _ _ _ hc5) (cwV 1 hts gX8_ahead_X8_layTried rfl rfl rfl (by decide +kernel) ⟨Nat.le_of_ble_eq_true rfl, Nat.le_of_ble_eq_true rfl⟩) xB_t hP hD hK [0, 1] rfl (by decide) (fun _ _ _ => trivial) 0 8 rfl rfl rfl rfl hl.1 rfl (Nat.le_of_ble_eq_true rfl) dX8_ahead_28) hP hD hS hA [0, 1] [] [0, 1] rfl rfl rfl ⟨by decide, by decide, by decide⟩ (fun H locs hP hD hS => ?_)
      refine lv_aload_n hx hb dX8_ahead_31 rfl (lv_at hl 0 rfl) ?_
      refine va_get (D := D) (ci := 8) (v := .ref a_row) (C := RX8) (T := TX8) (N := 37) hx hb hts inX8_ahead_X8 hown hK hP 0 rfl rfl 0 (by decide) (hts _ lkX8_ahead_f7) (fun _ h9 => h9) rfl dX8_ahead_32 ?_
      refine lv_sipush (v := 576) hx hb dX8_ahead_35 (by decide) ?_
      refine lv_iload_n hx hb dX8_ahead_38 rfl (lv_at hl 1 rfl) ?_
      refine lv_iadd hx hb dX8_ahead_39 ?_
      obtain ⟨b_6, hr⟩ := x_chk hr
      refine va_iald hx hb hK hP 1 0 rfl rfl b_6 dX8_ahead_40 ?_
      have g0 := x_some hr
      have e0 := x_p1 g0
      have g1 := x_p2 g0
      have e1 := x_p1 g1
      have g2 := x_p2 g1
      have e2 := x_p1 g2
      have g3 := x_p2 g2
      have e3 := x_p1 g3
      have e4 := x_p2 g3
      subst e0
      subst e1
      subst e2
      subst e3
      subst e4
      exact x_reti hx hb hret hlocks hP hD hK hS dX8_ahead_41
    · have hr := x_ift hr c_4
      refine lv_bipush (v := (-3)) hx hb dX8_ahead_23 (by decide) ?_
      have g0 := x_some hr
      have e0 := x_p1 g0
      have g1 := x_p2 g0
      have e1 := x_p1 g1
      have g2 := x_p2 g1
      have e2 := x_p1 g2
      have g3 := x_p2 g2
      have e3 := x_p1 g3
      have e4 := x_p2 g3
      subst e0
      subst e1
      subst e2
      subst e3
      subst e4
      exact x_reti hx hb hret hlocks hP hD hK hS dX8_ahead_25
  · have hr := x_ift hr c_2
    refine lv_bipush (v := (-2)) hx hb dX8_ahead_8 (by decide) ?_
    have g0 := x_some hr
    have e0 := x_p1 g0
    have g1 := x_p2 g0
    have e1 := x_p1 g1
    have g2 := x_p2 g1
    have e2 := x_p1 g2
    have g3 := x_p2 g2
    have e3 := x_p1 g3
    have e4 := x_p2 g3
    subst e0
    subst e1
    subst e2
    subst e3
    subst e4
    exact x_reti hx hb hret hlocks hP hD hK hS dX8_ahead_10
set_option maxHeartbeats 4000000 in
set_option maxRecDepth 100000 in
theorem mX8_ahead (l : Launch) (D : va_G) (c : Nat → ClassId) (a_this : Nat) (a_row : Nat) (a_isKept : Nat) (a_text : Nat) (a_seenMember : Nat) (a_seenMinutes : Nat) (a_seenFact : Nat) (a_seenKnew : Nat) (a_sizes : Nat) (a_sorts : Nat) (a_places : Nat) (a_belows : Nat) (a_clubWord : Nat) (a_factWord : Nat) (a_memberWord : Nat) (a_commonWord : Nat) (a_stripedWord : Nat) (a_greedyWord : Nat) (a_bishopWord : Nat) (a_muffWord : Nat) (a_onWord : Nat) (a_line : Nat) (a_bestLine : Nat) (a_moved : Nat) (a_movedBelow : Nat) (sz : Nat) (x_undos : Int32) (x_length : Int32) (x_seenMany : Int32) (x_first : Int32) (x_behind : Int32) (x_readFacts : Int32) (x_readMembers : Int32) (x_readLeeches : Int32) (x_clauses : Int32) (x_doing : Int32) (x_row : Nat → Int32) (x_hasNow : Int32) (x_knowsNow : Int32) (x_isOff : Int32) (v1 : Int32) (v2 : Int32) (n : Nat) (r_ret : Int32) (rm_row : Nat → Int32) (rm_hasNow : Int32) (rm_knowsNow : Int32) (rm_isOff : Int32) (h : fX8_ahead n x_row x_hasNow x_knowsNow x_isOff v1 v2 = some (r_ret, rm_row, rm_hasNow, rm_knowsNow, rm_isOff)) : Met l yX8_ahead wsX8_ahead ({ frames := 5, cells := 0, slots := 0, locals := 113 } : Room) (xPc D (xT c) sz [.ref a_this, .int v1, .int v2] (wX8_ahead c a_this a_row a_isKept a_text a_seenMember a_seenMinutes a_seenFact a_seenKnew a_sizes a_sorts a_places a_belows a_clubWord a_factWord a_memberWord a_commonWord a_stripedWord a_greedyWord a_bishopWord a_muffWord a_onWord a_line a_bestLine a_moved a_movedBelow x_undos x_length x_seenMany x_first x_behind x_readFacts x_readMembers x_readLeeches x_clauses x_doing x_row x_hasNow x_knowsNow x_isOff) (fun _ => True)) (xQi D (xT c) (va_A (wX8_ahead c a_this a_row a_isKept a_text a_seenMember a_seenMinutes a_seenFact a_seenKnew a_sizes a_sorts a_places a_belows a_clubWord a_factWord a_memberWord a_commonWord a_stripedWord a_greedyWord a_bishopWord a_muffWord a_onWord a_line a_bestLine a_moved a_movedBelow x_undos x_length x_seenMany x_first x_behind x_readFacts x_readMembers x_readLeeches x_clauses x_doing x_row x_hasNow x_knowsNow x_isOff) sz) r_ret (wX8_ahead c a_this a_row a_isKept a_text a_seenMember a_seenMinutes a_seenFact a_seenKnew a_sizes a_sorts a_places a_belows a_clubWord a_factWord a_memberWord a_commonWord a_stripedWord a_greedyWord a_bishopWord a_muffWord a_onWord a_line a_bestLine a_moved a_movedBelow x_undos x_length x_seenMany x_first x_behind x_readFacts x_readMembers x_readLeeches x_clauses x_doing rm_row rm_hasNow rm_knowsNow rm_isOff)) 0 0 (va_A (wX8_ahead c a_this a_row a_isKept a_text a_seenMember a_seenMinutes a_seenFact a_seenKnew a_sizes a_sorts a_places a_belows a_clubWord a_factWord a_memberWord a_commonWord a_stripedWord a_greedyWord a_bishopWord a_muffWord a_onWord a_line a_bestLine a_moved a_movedBelow x_undos x_length x_seenMany x_first x_behind x_readFacts x_readMembers x_readLeeches x_clauses x_doing x_row x_hasNow x_knowsNow x_isOff) sz) := by
  refine Met.ofW (cc := cX8_ahead) (maxL := 3) (ret := (some .int)) (by decide) rfl ?_
  intro p e s m args below meth cd s₁ B hml hv
  obtain ⟨rfl, hsz, hP, hK, hD0, hV⟩ := hv
  subst hsz
  have hl := lv_entry [.ref a_this, .int v1, .int v2] (n := 3) (Nat.le_of_ble_eq_true rfl)
  rw [lg_entry_eq]
  exact kX8_ahead_0 (A := va_A (wX8_ahead c a_this a_row a_isKept a_text a_seenMember a_seenMinutes a_seenFact a_seenKnew a_sizes a_sorts a_places a_belows a_clubWord a_factWord a_memberWord a_commonWord a_stripedWord a_greedyWord a_bishopWord a_muffWord a_onWord a_line a_bestLine a_moved a_movedBelow x_undos x_length x_seenMany x_first x_behind x_readFacts x_readMembers x_readLeeches x_clauses x_doing x_row x_hasNow x_knowsNow x_isOff) s.heap.size) ⟨B.exec, B.bytes, hml, B.returns, findClass_of_methodNamed B.named, atoms_spec (ws := wsX8_ahead) B.pre, B.notSynchronized, fun q h => Or.inr h, hK⟩ a_this a_row a_isKept a_text a_seenMember a_seenMinutes a_seenFact a_seenKnew a_sizes a_sorts a_places a_belows a_clubWord a_factWord a_memberWord a_commonWord a_stripedWord a_greedyWord a_bishopWord a_muffWord a_onWord a_line a_bestLine a_moved a_movedBelow x_undos x_length x_seenMany x_first x_behind x_readFacts x_readMembers x_readLeeches x_clauses x_doing n r_ret rm_row rm_hasNow rm_knowsNow rm_isOff x_row x_hasNow x_knowsNow x_isOff v1 v2 h s.heap [] _ hP hD0.self va_S.rf hl

abbrev wX8_gone (c : Nat → ClassId) (a_this : Nat) (a_row : Nat) (a_isKept : Nat) (a_text : Nat) (a_seenMember : Nat) (a_seenMinutes : Nat) (a_seenFact : Nat) (a_seenKnew : Nat) (a_sizes : Nat) (a_sorts : Nat) (a_places : Nat) (a_belows : Nat) (a_clubWord : Nat) (a_factWord : Nat) (a_memberWord : Nat) (a_commonWord : Nat) (a_stripedWord : Nat) (a_greedyWord : Nat) (a_bishopWord : Nat) (a_muffWord : Nat) (a_onWord : Nat) (a_line : Nat) (a_bestLine : Nat) (a_moved : Nat) (a_movedBelow : Nat) (x_undos : Int32) (x_length : Int32) (x_seenMany : Int32) (x_first : Int32) (x_behind : Int32) (x_readFacts : Int32) (x_readMembers : Int32) (x_readLeeches : Int32) (x_clauses : Int32) (x_doing : Int32) (x_row : Nat → Int32) (x_hasNow : Int32) (x_knowsNow : Int32) (x_isOff : Int32) : va_W := [(a_this, .inr (8, [.ref a_row, .int x_undos, .ref a_isKept, .ref a_text, .int x_length, .int x_seenMany, .ref a_seenMember, .ref a_seenMinutes, .ref a_seenFact, .ref a_seenKnew, .ref a_sizes, .ref a_sorts, .ref a_places, .ref a_belows, .int x_first, .int x_behind, .int x_readFacts, .int x_readMembers, .int x_readLeeches, .int x_clauses, .int x_doing, .ref a_clubWord, .ref a_factWord, .ref a_memberWord, .ref a_commonWord, .ref a_stripedWord, .ref a_greedyWord, .ref a_bishopWord, .ref a_muffWord, .ref a_onWord, .int x_hasNow, .int x_knowsNow, .int x_isOff, .ref a_line, .ref a_bestLine, .ref a_moved, .ref a_movedBelow])), (a_row, .inl (c 0, 624, .inl x_row))]
def GX8_gone (p : Program) (l : Launch) (e : Env) (s : State) (m : MethodId) (args : Array Value) (below : List Frame) (meth : Method) (cd : Code) (D : va_G) (c : Nat → ClassId) (A : Nat → Prop) (a_this : Nat) (a_row : Nat) (a_isKept : Nat) (a_text : Nat) (a_seenMember : Nat) (a_seenMinutes : Nat) (a_seenFact : Nat) (a_seenKnew : Nat) (a_sizes : Nat) (a_sorts : Nat) (a_places : Nat) (a_belows : Nat) (a_clubWord : Nat) (a_factWord : Nat) (a_memberWord : Nat) (a_commonWord : Nat) (a_stripedWord : Nat) (a_greedyWord : Nat) (a_bishopWord : Nat) (a_muffWord : Nat) (a_onWord : Nat) (a_line : Nat) (a_bestLine : Nat) (a_moved : Nat) (a_movedBelow : Nat) (x_undos : Int32) (x_length : Int32) (x_seenMany : Int32) (x_first : Int32) (x_behind : Int32) (x_readFacts : Int32) (x_readMembers : Int32) (x_readLeeches : Int32) (x_clauses : Int32) (x_doing : Int32) (r_ret : Int32) (rm_row : Nat → Int32) (rm_hasNow : Int32) (rm_knowsNow : Int32) (rm_isOff : Int32) (pc : Nat) (st : List Value) (loc : List (Nat × Value)) (x_row : Nat → Int32) (x_hasNow : Int32) (x_knowsNow : Int32) (x_isOff : Int32) : Prop :=
  ∀ (H : Heap) (locs : List Loc) (ls : Array Slot), va_P D vwCl (wX8_gone c a_this a_row a_isKept a_text a_seenMember a_seenMinutes a_seenFact a_seenKnew a_sizes a_sorts a_places a_belows a_clubWord a_factWord a_memberWord a_commonWord a_stripedWord a_greedyWord a_bishopWord a_muffWord a_onWord a_line a_bestLine a_moved a_movedBelow x_undos x_length x_seenMany x_first x_behind x_readFacts x_readMembers x_readLeeches x_clauses x_doing x_row x_hasNow x_knowsNow x_isOff) H → va_D A (wX8_gone c a_this a_row a_isKept a_text a_seenMember a_seenMinutes a_seenFact a_seenKnew a_sizes a_sorts a_places a_belows a_clubWord a_factWord a_memberWord a_commonWord a_stripedWord a_greedyWord a_bishopWord a_muffWord a_onWord a_line a_bestLine a_moved a_movedBelow x_undos x_length x_seenMany x_first x_behind x_readFacts x_readMembers x_readLeeches x_clauses x_doing x_row x_hasNow x_knowsNow x_isOff) → va_S A s.heap H locs → lv_has ls 4 loc → W p l e ({ frames := 5, cells := 0, slots := 0, locals := 113 } : Room) s m args below meth cd H locs 0 0 (MQ below (xQi D (xT c) A r_ret (wX8_gone c a_this a_row a_isKept a_text a_seenMember a_seenMinutes a_seenFact a_seenKnew a_sizes a_sorts a_places a_belows a_clubWord a_factWord a_memberWord a_commonWord a_stripedWord a_greedyWord a_bishopWord a_muffWord a_onWord a_line a_bestLine a_moved a_movedBelow x_undos x_length x_seenMany x_first x_behind x_readFacts x_readMembers x_readLeeches x_clauses x_doing rm_row rm_hasNow rm_knowsNow rm_isOff)) args s 0 0 A) (F0 m pc ls st)
theorem lkX8_gone_f7 : Cond.fieldLink RX8 7 "LeechClubModel" "row" "[I" ∈ wsX8_gone := by decide +kernel
theorem inX8_gone_X8 : ∀ w ∈ wsX80, w ∈ wsX8_gone := by decide +kernel
set_option maxHeartbeats 4000000 in
set_option maxRecDepth 100000 in
theorem kX8_gone_16 {p : Program} {l : Launch} {e : Env} {s : State} {m : MethodId} {args : Array Value} {below : List Frame} {meth : Method} {cd : Code} {D : va_G} {c : Nat → ClassId} {A : Nat → Prop} (E0 : xE p s m args meth cd D (xT c) A RX8 cX8_gone 4 (some .int) wsX8_gone) (a_this : Nat) (a_row : Nat) (a_isKept : Nat) (a_text : Nat) (a_seenMember : Nat) (a_seenMinutes : Nat) (a_seenFact : Nat) (a_seenKnew : Nat) (a_sizes : Nat) (a_sorts : Nat) (a_places : Nat) (a_belows : Nat) (a_clubWord : Nat) (a_factWord : Nat) (a_memberWord : Nat) (a_commonWord : Nat) (a_stripedWord : Nat) (a_greedyWord : Nat) (a_bishopWord : Nat) (a_muffWord : Nat) (a_onWord : Nat) (a_line : Nat) (a_bestLine : Nat) (a_moved : Nat) (a_movedBelow : Nat) (x_undos : Int32) (x_length : Int32) (x_seenMany : Int32) (x_first : Int32) (x_behind : Int32) (x_readFacts : Int32) (x_readMembers : Int32) (x_readLeeches : Int32) (x_clauses : Int32) (x_doing : Int32) (n : Nat) (r_ret : Int32) (rm_row : Nat → Int32) (rm_hasNow : Int32) (rm_knowsNow : Int32) (rm_isOff : Int32) (x_row : Nat → Int32) (x_hasNow : Int32) (x_knowsNow : Int32) (x_isOff : Int32) (hr : fX8_gone_16 n x_row x_hasNow x_knowsNow x_isOff = some (r_ret, rm_row, rm_hasNow, rm_knowsNow, rm_isOff)) : GX8_gone p l e s m args below meth cd D c A a_this a_row a_isKept a_text a_seenMember a_seenMinutes a_seenFact a_seenKnew a_sizes a_sorts a_places a_belows a_clubWord a_factWord a_memberWord a_commonWord a_stripedWord a_greedyWord a_bishopWord a_muffWord a_onWord a_line a_bestLine a_moved a_movedBelow x_undos x_length x_seenMany x_first x_behind x_readFacts x_readMembers x_readLeeches x_clauses x_doing r_ret rm_row rm_hasNow rm_knowsNow rm_isOff 16 [] [] x_row x_hasNow x_knowsNow x_isOff := by
  have E1 := E0
  obtain ⟨hx, hb, hml, hret, hown, hts, hlocks, hA, hK⟩ := E1
  intro H locs ls hP hD hS hl
  unfold fX8_gone_16 at hr
  refine lv_bipush (v := (-2)) hx hb dX8_gone_16 (by decide) ?_
  have g0 := x_some hr
  have e0 := x_p1 g0
  have g1 := x_p2 g0
  have e1 := x_p1 g1
  have g2 := x_p2 g1
  have e2 := x_p1 g2
  have g3 := x_p2 g2
  have e3 := x_p1 g3
  have e4 := x_p2 g3
  subst e0
  subst e1
  subst e2
  subst e3
  subst e4
  exact x_reti hx hb hret hlocks hP hD hK hS dX8_gone_18
set_option maxHeartbeats 4000000 in
set_option maxRecDepth 100000 in
theorem kX8_gone_26 {p : Program} {l : Launch} {e : Env} {s : State} {m : MethodId} {args : Array Value} {below : List Frame} {meth : Method} {cd : Code} {D : va_G} {c : Nat → ClassId} {A : Nat → Prop} (E0 : xE p s m args meth cd D (xT c) A RX8 cX8_gone 4 (some .int) wsX8_gone) (a_this : Nat) (a_row : Nat) (a_isKept : Nat) (a_text : Nat) (a_seenMember : Nat) (a_seenMinutes : Nat) (a_seenFact : Nat) (a_seenKnew : Nat) (a_sizes : Nat) (a_sorts : Nat) (a_places : Nat) (a_belows : Nat) (a_clubWord : Nat) (a_factWord : Nat) (a_memberWord : Nat) (a_commonWord : Nat) (a_stripedWord : Nat) (a_greedyWord : Nat) (a_bishopWord : Nat) (a_muffWord : Nat) (a_onWord : Nat) (a_line : Nat) (a_bestLine : Nat) (a_moved : Nat) (a_movedBelow : Nat) (x_undos : Int32) (x_length : Int32) (x_seenMany : Int32) (x_first : Int32) (x_behind : Int32) (x_readFacts : Int32) (x_readMembers : Int32) (x_readLeeches : Int32) (x_clauses : Int32) (x_doing : Int32) (n : Nat) (r_ret : Int32) (rm_row : Nat → Int32) (rm_hasNow : Int32) (rm_knowsNow : Int32) (rm_isOff : Int32) : ∀ (k : Nat) (x_row : Nat → Int32) (x_hasNow : Int32) (x_knowsNow : Int32) (x_isOff : Int32) (v1 : Int32) (v2 : Int32) (v3 : Int32), fX8_gone_26 n k x_row x_hasNow x_knowsNow x_isOff v1 v2 v3 = some (r_ret, rm_row, rm_hasNow, rm_knowsNow, rm_isOff) → GX8_gone p l e s m args below meth cd D c A a_this a_row a_isKept a_text a_seenMember a_seenMinutes a_seenFact a_seenKnew a_sizes a_sorts a_places a_belows a_clubWord a_factWord a_memberWord a_commonWord a_stripedWord a_greedyWord a_bishopWord a_muffWord a_onWord a_line a_bestLine a_moved a_movedBelow x_undos x_length x_seenMany x_first x_behind x_readFacts x_readMembers x_readLeeches x_clauses x_doing r_ret rm_row rm_hasNow rm_knowsNow rm_isOff 26 [] [(0, .ref a_this), (1, .int v1), (2, .int v2), (3, .int v3)] x_row x_hasNow x_knowsNow x_isOff := by
  have E1 := E0
  obtain ⟨hx, hb, hml, hret, hown, hts, hlocks, hA, hK⟩ := E1
  intro k
  induction k with
  | zero => intro x_row x_hasNow x_knowsNow x_isOff v1 v2 v3 hr; cases hr
  | succ k h_26 =>
    intro x_row x_hasNow x_knowsNow x_isOff v1 v2 v3 hr H locs ls hP hD hS hl
    unfold fX8_gone_26 at hr
    refine lv_iload_n hx hb dX8_gone_26 rfl (lv_at hl 3 rfl) ?_
    refine lv_bipush (v := 41) hx hb dX8_gone_27 (by decide) ?_
    refine lv_icmp_ge (tgt := 64) hx hb dX8_gone_29 (by decide) (fun c_1 => ?_) (fun c_1 => ?_)
    · have hr := x_ift hr c_1
      refine lv_iconst (v := (-1)) hx hb dX8_gone_64 (by decide) ?_
      have g0 := x_some hr
      have e0 := x_p1 g0
      have g1 := x_p2 g0
      have e1 := x_p1 g1
      have g2 := x_p2 g1
      have e2 := x_p1 g2
      have g3 := x_p2 g2
      have e3 := x_p1 g3
      have e4 := x_p2 g3
      subst e0
      subst e1
      subst e2
      subst e3
      subst e4
      exact x_reti hx hb hret hlocks hP hD hK hS dX8_gone_65
    · have hr := x_iff hr c_1
      refine lv_aload_n hx hb dX8_gone_32 rfl (lv_at hl 0 rfl) ?_
      refine va_get (D := D) (ci := 8) (v := .ref a_row) (C := RX8) (T := TX8) (N := 37) hx hb hts inX8_gone_X8 hown hK hP 0 rfl rfl 0 (by decide) (hts _ lkX8_gone_f7) (fun _ h9 => h9) rfl dX8_gone_33 ?_
      refine lv_sipush (v := 576) hx hb dX8_gone_36 (by decide) ?_
      refine lv_iload_n hx hb dX8_gone_39 rfl (lv_at hl 1 rfl) ?_
      refine lv_iadd hx hb dX8_gone_40 ?_
      obtain ⟨b_2, hr⟩ := x_chk hr
      refine va_iald hx hb hK hP 1 0 rfl rfl b_2 dX8_gone_41 ?_
      refine lv_iload_n hx hb dX8_gone_42 rfl (lv_at hl 2 rfl) ?_
      obtain ⟨q3_0, hc3, hr⟩ := x_bind hr
      refine x_runi (wr := [(a_this, .inr (8, [.ref a_row, .int x_undos, .ref a_isKept, .ref a_text, .int x_length, .int x_seenMany, .ref a_seenMember, .ref a_seenMinutes, .ref a_seenFact, .ref a_seenKnew, .ref a_sizes, .ref a_sorts, .ref a_places, .ref a_belows, .int x_first, .int x_behind, .int x_readFacts, .int x_readMembers, .int x_readLeeches, .int x_clauses, .int x_doing, .ref a_clubWord, .ref a_factWord, .ref a_memberWord, .ref a_commonWord, .ref a_stripedWord, .ref a_greedyWord, .ref a_bishopWord, .ref a_muffWord, .ref a_onWord, .int x_hasNow, .int x_knowsNow, .int x_isOff, .ref a_line, .ref a_bestLine, .ref a_moved, .ref a_movedBelow])), (a_row, .inl (c 0, 624, .inl x_row))]) (wf := [(a_this, .inr (8, [.ref a_row, .int x_undos, .ref a_isKept, .ref a_text, .int x_length, .int x_seenMany, .ref a_seenMember, .ref a_seenMinutes, .ref a_seenFact, .ref a_seenKnew, .ref a_sizes, .ref a_sorts, .ref a_places, .ref a_belows, .int x_first, .int x_behind, .int x_readFacts, .int x_readMembers, .int x_readLeeches, .int x_clauses, .int x_doing, .ref a_clubWord, .ref a_factWord, .ref a_memberWord, .ref a_commonWord, .ref a_stripedWord, .ref a_greedyWord, .ref a_bishopWord, .ref a_muffWord, .ref a_onWord, .int x_hasNow, .int x_knowsNow, .int x_isOff, .ref a_line, .ref a_bestLine, .ref a_moved, .ref a_movedBelow])), (a_row, .inl (c 0, 624, .inl x_row))]) (x_goS (As := [.int (x_row (576 + v1).toNatClampNeg), .int v2]) (rest := []) ⟨hx, hb, hml, hown, hts⟩ (mX8_has l D c H.size (x_row (576 + v1).toNatClampNeg) v2 n _ hc3) (va_cwS 2 hts gX8_gone_X8_has rfl rfl rfl (by decide +kernel) ⟨Nat.le_of_ble_eq_true rfl, Nat.le_of_ble_eq_true rfl⟩) xB_t hP hD hK [] rfl (by decide) (fun _ _ _ => trivial) rfl hl.1 rfl (Nat.le_of_ble_eq_true rfl) dX8_gone_43) hP hD hS hA [] [0, 1] [0, 1] rfl rfl rfl ⟨by decide, by decide, by decide⟩ (fun H locs hP hD hS => ?_)
      refine lv_if_ne (tgt := 51) hx hb dX8_gone_46 (by decide) (fun c_4 => ?_) (fun c_4 => ?_)
      · have hr := x_iff hr c_4
        refine lv_aload_n hx hb dX8_gone_51 rfl (lv_at hl 0 rfl) ?_
        refine lv_sipush (v := 576) hx hb dX8_gone_52 (by decide) ?_
        obtain ⟨⟨q5_0, q5_1, q5_2, q5_3⟩, hc5, hr⟩ := x_bind hr
        try dsimp only at hr
        refine x_runv (wr := []) (wf := [(a_this, .inr (8, [.ref a_row, .int x_undos, .ref a_isKept, .ref a_text, .int x_length, .int x_seenMany, .ref a_seenMember, .ref a_seenMinutes, .ref a_seenFact, .ref a_seenKnew, .ref a_sizes, .ref a_sorts, .ref a_places, .ref a_belows, .int x_first, .int x_behind, .int x_readFacts, .int x_readMembers, .int x_readLeeches, .int x_clauses, .int x_doing, .ref a_clubWord, .ref a_factWord, .ref a_memberWord, .ref a_commonWord, .ref a_stripedWord, .ref a_greedyWord, .ref a_bishopWord, .ref a_muffWord, .ref a_onWord, .int q5_1, .int q5_2, .int q5_3, .ref a_line, .ref a_bestLine, .ref a_moved, .ref a_movedBelow])), (a_row, .inl (c 0, 624, .inl q5_0))]) (x_goV (As := [.int 576]) (rest := []) ⟨hx, hb, hml, hown, hts⟩ (mX8_passes l D c a_this a_row a_isKept a_text a_seenMember a_seenMinutes a_seenFact a_seenKnew a_sizes a_sorts a_places a_belows a_clubWord a_factWord a_memberWord a_commonWord a_stripedWord a_greedyWord a_bishopWord a_muffWord a_onWord a_line a_bestLine a_moved a_movedBelow H.size x_undos x_length x_seenMany x_first x_behind x_readFacts x_readMembers x_readLeeches x_clauses x_doing x_row x_hasNow x_knowsNow x_isOff 576 n _ _ _ _ hc5) (cwV 1 hts gX8_gone_X8_passes rfl rfl rfl (by decide +kernel) ⟨Nat.le_of_ble_eq_true rfl, Nat.le_of_ble_eq_true rfl⟩) xB_t hP hD hK [0, 1] rfl (by decide) (fun _ _ _ => trivial) 0 8 rfl rfl rfl rfl hl.1 rfl (Nat.le_of_ble_eq_true rfl) dX8_gone_55) hP hD hS hA [0, 1] [] [0, 1] rfl rfl rfl ⟨by decide, by decide, by decide⟩ (fun H locs hP hD hS => ?_)
        refine lv_iinc (v := v3 + 1) (lv' := [(3, .int (v3 + 1)), (0, .ref a_this), (1, .int v1), (2, .int v2)]) hx hb dX8_gone_58 hl (k := 3) rfl rfl (by decide) rfl (fun ls hl => ?_)
        refine lv_goto (tgt := 26) hx hb dX8_gone_61 (by decide) ?_
        exact h_26 q5_0 q5_1 q5_2 q5_3 v1 v2 (v3 + 1) hr H locs ls hP hD hS (lv_sub hl [1, 2, 3, 0] rfl)
      · have hr := x_ift hr c_4
        refine lv_iload_n hx hb dX8_gone_49 rfl (lv_at hl 3 rfl) ?_
        have g0 := x_some hr
        have e0 := x_p1 g0
        have g1 := x_p2 g0
        have e1 := x_p1 g1
        have g2 := x_p2 g1
        have e2 := x_p1 g2
        have g3 := x_p2 g2
        have e3 := x_p1 g3
        have e4 := x_p2 g3
        subst e0
        subst e1
        subst e2
        subst e3
        subst e4
        exact x_reti hx hb hret hlocks hP hD hK hS dX8_gone_50
set_option maxHeartbeats 4000000 in
set_option maxRecDepth 100000 in
theorem kX8_gone_0 {p : Program} {l : Launch} {e : Env} {s : State} {m : MethodId} {args : Array Value} {below : List Frame} {meth : Method} {cd : Code} {D : va_G} {c : Nat → ClassId} {A : Nat → Prop} (E0 : xE p s m args meth cd D (xT c) A RX8 cX8_gone 4 (some .int) wsX8_gone) (a_this : Nat) (a_row : Nat) (a_isKept : Nat) (a_text : Nat) (a_seenMember : Nat) (a_seenMinutes : Nat) (a_seenFact : Nat) (a_seenKnew : Nat) (a_sizes : Nat) (a_sorts : Nat) (a_places : Nat) (a_belows : Nat) (a_clubWord : Nat) (a_factWord : Nat) (a_memberWord : Nat) (a_commonWord : Nat) (a_stripedWord : Nat) (a_greedyWord : Nat) (a_bishopWord : Nat) (a_muffWord : Nat) (a_onWord : Nat) (a_line : Nat) (a_bestLine : Nat) (a_moved : Nat) (a_movedBelow : Nat) (x_undos : Int32) (x_length : Int32) (x_seenMany : Int32) (x_first : Int32) (x_behind : Int32) (x_readFacts : Int32) (x_readMembers : Int32) (x_readLeeches : Int32) (x_clauses : Int32) (x_doing : Int32) (n : Nat) (r_ret : Int32) (rm_row : Nat → Int32) (rm_hasNow : Int32) (rm_knowsNow : Int32) (rm_isOff : Int32) (x_row : Nat → Int32) (x_hasNow : Int32) (x_knowsNow : Int32) (x_isOff : Int32) (v1 : Int32) (v2 : Int32) (hr : fX8_gone n x_row x_hasNow x_knowsNow x_isOff v1 v2 = some (r_ret, rm_row, rm_hasNow, rm_knowsNow, rm_isOff)) : GX8_gone p l e s m args below meth cd D c A a_this a_row a_isKept a_text a_seenMember a_seenMinutes a_seenFact a_seenKnew a_sizes a_sorts a_places a_belows a_clubWord a_factWord a_memberWord a_commonWord a_stripedWord a_greedyWord a_bishopWord a_muffWord a_onWord a_line a_bestLine a_moved a_movedBelow x_undos x_length x_seenMany x_first x_behind x_readFacts x_readMembers x_readLeeches x_clauses x_doing r_ret rm_row rm_hasNow rm_knowsNow rm_isOff 0 [] [(0, .ref a_this), (1, .int v1), (2, .int v2)] x_row x_hasNow x_knowsNow x_isOff := by
  have E1 := E0
  obtain ⟨hx, hb, hml, hret, hown, hts, hlocks, hA, hK⟩ := E1
  intro H locs ls hP hD hS hl
  unfold fX8_gone at hr
  refine lv_aload_n hx hb dX8_gone_0 rfl (lv_at hl 0 rfl) ?_
  refine lv_iload_n hx hb dX8_gone_1 rfl (lv_at hl 1 rfl) ?_
  obtain ⟨q1_0, hc1, hr⟩ := x_bind hr
  refine x_runi (wr := []) (wf := [(a_this, .inr (8, [.ref a_row, .int x_undos, .ref a_isKept, .ref a_text, .int x_length, .int x_seenMany, .ref a_seenMember, .ref a_seenMinutes, .ref a_seenFact, .ref a_seenKnew, .ref a_sizes, .ref a_sorts, .ref a_places, .ref a_belows, .int x_first, .int x_behind, .int x_readFacts, .int x_readMembers, .int x_readLeeches, .int x_clauses, .int x_doing, .ref a_clubWord, .ref a_factWord, .ref a_memberWord, .ref a_commonWord, .ref a_stripedWord, .ref a_greedyWord, .ref a_bishopWord, .ref a_muffWord, .ref a_onWord, .int x_hasNow, .int x_knowsNow, .int x_isOff, .ref a_line, .ref a_bestLine, .ref a_moved, .ref a_movedBelow])), (a_row, .inl (c 0, 624, .inl x_row))]) (x_goV (As := [.int v1]) (rest := []) ⟨hx, hb, hml, hown, hts⟩ (mX8_isMember l D c a_this a_row a_isKept a_text a_seenMember a_seenMinutes a_seenFact a_seenKnew a_sizes a_sorts a_places a_belows a_clubWord a_factWord a_memberWord a_commonWord a_stripedWord a_greedyWord a_bishopWord a_muffWord a_onWord a_line a_bestLine a_moved a_movedBelow H.size x_undos x_length x_seenMany x_first x_behind x_readFacts x_readMembers x_readLeeches x_clauses x_doing x_hasNow x_knowsNow x_isOff x_row v1 n _ hc1) (cwV 1 hts gX8_gone_X8_isMember rfl rfl rfl (by decide +kernel) ⟨Nat.le_of_ble_eq_true rfl, Nat.le_of_ble_eq_true rfl⟩) xB_t hP hD hK [0, 1] rfl (by decide) (fun _ _ _ => trivial) 0 8 rfl rfl rfl rfl hl.1 rfl (Nat.le_of_ble_eq_true rfl) dX8_gone_2) hP hD hS hA [0, 1] [] [0, 1] rfl rfl rfl ⟨by decide, by decide, by decide⟩ (fun H locs hP hD hS => ?_)
  refine lv_if_eq (tgt := 16) hx hb dX8_gone_5 (by decide) (fun c_2 => ?_) (fun c_2 => ?_)
  · have hr := x_ift hr c_2
    exact kX8_gone_16 E0 a_this a_row a_isKept a_text a_seenMember a_seenMinutes a_seenFact a_seenKnew a_sizes a_sorts a_places a_belows a_clubWord a_factWord a_memberWord a_commonWord a_stripedWord a_greedyWord a_bishopWord a_muffWord a_onWord a_line a_bestLine a_moved a_movedBelow x_undos x_length x_seenMany x_first x_behind x_readFacts x_readMembers x_readLeeches x_clauses x_doing n r_ret rm_row rm_hasNow rm_knowsNow rm_isOff x_row x_hasNow x_knowsNow x_isOff hr H locs ls hP hD hS (lv_sub hl [] rfl)
  · have hr := x_iff hr c_2
    refine lv_aload_n hx hb dX8_gone_8 rfl (lv_at hl 0 rfl) ?_
    refine lv_iload_n hx hb dX8_gone_9 rfl (lv_at hl 2 rfl) ?_
    obtain ⟨q3_0, hc3, hr⟩ := x_bind hr
    refine x_runi (wr := []) (wf := [(a_this, .inr (8, [.ref a_row, .int x_undos, .ref a_isKept, .ref a_text, .int x_length, .int x_seenMany, .ref a_seenMember, .ref a_seenMinutes, .ref a_seenFact, .ref a_seenKnew, .ref a_sizes, .ref a_sorts, .ref a_places, .ref a_belows, .int x_first, .int x_behind, .int x_readFacts, .int x_readMembers, .int x_readLeeches, .int x_clauses, .int x_doing, .ref a_clubWord, .ref a_factWord, .ref a_memberWord, .ref a_commonWord, .ref a_stripedWord, .ref a_greedyWord, .ref a_bishopWord, .ref a_muffWord, .ref a_onWord, .int x_hasNow, .int x_knowsNow, .int x_isOff, .ref a_line, .ref a_bestLine, .ref a_moved, .ref a_movedBelow])), (a_row, .inl (c 0, 624, .inl x_row))]) (x_goV (As := [.int v2]) (rest := []) ⟨hx, hb, hml, hown, hts⟩ (mX8_isFact l D c a_this a_row a_isKept a_text a_seenMember a_seenMinutes a_seenFact a_seenKnew a_sizes a_sorts a_places a_belows a_clubWord a_factWord a_memberWord a_commonWord a_stripedWord a_greedyWord a_bishopWord a_muffWord a_onWord a_line a_bestLine a_moved a_movedBelow H.size x_undos x_length x_seenMany x_first x_behind x_readFacts x_readMembers x_readLeeches x_clauses x_doing x_hasNow x_knowsNow x_isOff x_row v2 n _ hc3) (cwV 1 hts gX8_gone_X8_isFact rfl rfl rfl (by decide +kernel) ⟨Nat.le_of_ble_eq_true rfl, Nat.le_of_ble_eq_true rfl⟩) xB_t hP hD hK [0, 1] rfl (by decide) (fun _ _ _ => trivial) 0 8 rfl rfl rfl rfl hl.1 rfl (Nat.le_of_ble_eq_true rfl) dX8_gone_10) hP hD hS hA [0, 1] [] [0, 1] rfl rfl rfl ⟨by decide, by decide, by decide⟩ (fun H locs hP hD hS => ?_)
    refine lv_if_ne (tgt := 19) hx hb dX8_gone_13 (by decide) (fun c_4 => ?_) (fun c_4 => ?_)
    · have hr := x_iff hr c_4
      refine lv_aload_n hx hb dX8_gone_19 rfl (lv_at hl 0 rfl) ?_
      refine lv_iconst (v := 0) hx hb dX8_gone_20 (by decide) ?_
      obtain ⟨⟨q5_0, q5_1, q5_2, q5_3⟩, hc5, hr⟩ := x_bind hr
      try dsimp only at hr
      refine x_runv (wr := []) (wf := [(a_this, .inr (8, [.ref a_row, .int x_undos, .ref a_isKept, .ref a_text, .int x_length, .int x_seenMany, .ref a_seenMember, .ref a_seenMinutes, .ref a_seenFact, .ref a_seenKnew, .ref a_sizes, .ref a_sorts, .ref a_places, .ref a_belows, .int x_first, .int x_behind, .int x_readFacts, .int x_readMembers, .int x_readLeeches, .int x_clauses, .int x_doing, .ref a_clubWord, .ref a_factWord, .ref a_memberWord, .ref a_commonWord, .ref a_stripedWord, .ref a_greedyWord, .ref a_bishopWord, .ref a_muffWord, .ref a_onWord, .int q5_1, .int q5_2, .int q5_3, .ref a_line, .ref a_bestLine, .ref a_moved, .ref a_movedBelow])), (a_row, .inl (c 0, 624, .inl q5_0))]) (x_goV (As := [.int 0]) (rest := []) ⟨hx, hb, hml, hown, hts⟩ (mX8_layTried l D c a_this a_row a_isKept a_text a_seenMember a_seenMinutes a_seenFact a_seenKnew a_sizes a_sorts a_places a_belows a_clubWord a_factWord a_memberWord a_commonWord a_stripedWord a_greedyWord a_bishopWord a_muffWord a_onWord a_line a_bestLine a_moved a_movedBelow H.size x_undos x_length x_seenMany x_first x_behind x_readFacts x_readMembers x_readLeeches x_clauses x_doing x_row x_hasNow x_knowsNow x_isOff 0 n _ _ _ _ hc5) (cwV 1 hts gX8_gone_X8_layTried rfl rfl rfl (by decide +kernel) ⟨Nat.le_of_ble_eq_true rfl, Nat.le_of_ble_eq_true rfl⟩) xB_t hP hD hK [0, 1] rfl (by decide) (fun _ _ _ => trivial) 0 8 rfl rfl rfl rfl hl.1 rfl (Nat.le_of_ble_eq_true rfl) dX8_gone_21) hP hD hS hA [0, 1] [] [0, 1] rfl rfl rfl ⟨by decide, by decide, by decide⟩ (fun H locs hP hD hS => ?_)
      refine lv_iconst (v := 0) hx hb dX8_gone_24 (by decide) ?_
      refine lv_istore_n (lv' := [(3, .int 0), (0, .ref a_this), (1, .int v1), (2, .int v2)]) hx hb dX8_gone_25 rfl hl (by decide) rfl (fun ls hl => ?_)
      exact kX8_gone_26 E0 a_this a_row a_isKept a_text a_seenMember a_seenMinutes a_seenFact a_seenKnew a_sizes a_sorts a_places a_belows a_clubWord a_factWord a_memberWord a_commonWord a_stripedWord a_greedyWord a_bishopWord a_muffWord a_onWord a_line a_bestLine a_moved a_movedBelow x_undos x_length x_seenMany x_first x_behind x_readFacts x_readMembers x_readLeeches x_clauses x_doing n r_ret rm_row rm_hasNow rm_knowsNow rm_isOff n q5_0 q5_1 q5_2 q5_3 v1 v2 0 hr H locs ls hP hD hS (lv_sub hl [1, 2, 3, 0] rfl)
    · have hr := x_ift hr c_4
      exact kX8_gone_16 E0 a_this a_row a_isKept a_text a_seenMember a_seenMinutes a_seenFact a_seenKnew a_sizes a_sorts a_places a_belows a_clubWord a_factWord a_memberWord a_commonWord a_stripedWord a_greedyWord a_bishopWord a_muffWord a_onWord a_line a_bestLine a_moved a_movedBelow x_undos x_length x_seenMany x_first x_behind x_readFacts x_readMembers x_readLeeches x_clauses x_doing n r_ret rm_row rm_hasNow rm_knowsNow rm_isOff x_row x_hasNow x_knowsNow x_isOff hr H locs ls hP hD hS (lv_sub hl [] rfl)
set_option maxHeartbeats 4000000 in
set_option maxRecDepth 100000 in
theorem mX8_gone (l : Launch) (D : va_G) (c : Nat → ClassId) (a_this : Nat) (a_row : Nat) (a_isKept : Nat) (a_text : Nat) (a_seenMember : Nat) (a_seenMinutes : Nat) (a_seenFact : Nat) (a_seenKnew : Nat) (a_sizes : Nat) (a_sorts : Nat) (a_places : Nat) (a_belows : Nat) (a_clubWord : Nat) (a_factWord : Nat) (a_memberWord : Nat) (a_commonWord : Nat) (a_stripedWord : Nat) (a_greedyWord : Nat) (a_bishopWord : Nat) (a_muffWord : Nat) (a_onWord : Nat) (a_line : Nat) (a_bestLine : Nat) (a_moved : Nat) (a_movedBelow : Nat) (sz : Nat) (x_undos : Int32) (x_length : Int32) (x_seenMany : Int32) (x_first : Int32) (x_behind : Int32) (x_readFacts : Int32) (x_readMembers : Int32) (x_readLeeches : Int32) (x_clauses : Int32) (x_doing : Int32) (x_row : Nat → Int32) (x_hasNow : Int32) (x_knowsNow : Int32) (x_isOff : Int32) (v1 : Int32) (v2 : Int32) (n : Nat) (r_ret : Int32) (rm_row : Nat → Int32) (rm_hasNow : Int32) (rm_knowsNow : Int32) (rm_isOff : Int32) (h : fX8_gone n x_row x_hasNow x_knowsNow x_isOff v1 v2 = some (r_ret, rm_row, rm_hasNow, rm_knowsNow, rm_isOff)) : Met l yX8_gone wsX8_gone ({ frames := 5, cells := 0, slots := 0, locals := 113 } : Room) (xPc D (xT c) sz [.ref a_this, .int v1, .int v2] (wX8_gone c a_this a_row a_isKept a_text a_seenMember a_seenMinutes a_seenFact a_seenKnew a_sizes a_sorts a_places a_belows a_clubWord a_factWord a_memberWord a_commonWord a_stripedWord a_greedyWord a_bishopWord a_muffWord a_onWord a_line a_bestLine a_moved a_movedBelow x_undos x_length x_seenMany x_first x_behind x_readFacts x_readMembers x_readLeeches x_clauses x_doing x_row x_hasNow x_knowsNow x_isOff) (fun _ => True)) (xQi D (xT c) (va_A (wX8_gone c a_this a_row a_isKept a_text a_seenMember a_seenMinutes a_seenFact a_seenKnew a_sizes a_sorts a_places a_belows a_clubWord a_factWord a_memberWord a_commonWord a_stripedWord a_greedyWord a_bishopWord a_muffWord a_onWord a_line a_bestLine a_moved a_movedBelow x_undos x_length x_seenMany x_first x_behind x_readFacts x_readMembers x_readLeeches x_clauses x_doing x_row x_hasNow x_knowsNow x_isOff) sz) r_ret (wX8_gone c a_this a_row a_isKept a_text a_seenMember a_seenMinutes a_seenFact a_seenKnew a_sizes a_sorts a_places a_belows a_clubWord a_factWord a_memberWord a_commonWord a_stripedWord a_greedyWord a_bishopWord a_muffWord a_onWord a_line a_bestLine a_moved a_movedBelow x_undos x_length x_seenMany x_first x_behind x_readFacts x_readMembers x_readLeeches x_clauses x_doing rm_row rm_hasNow rm_knowsNow rm_isOff)) 0 0 (va_A (wX8_gone c a_this a_row a_isKept a_text a_seenMember a_seenMinutes a_seenFact a_seenKnew a_sizes a_sorts a_places a_belows a_clubWord a_factWord a_memberWord a_commonWord a_stripedWord a_greedyWord a_bishopWord a_muffWord a_onWord a_line a_bestLine a_moved a_movedBelow x_undos x_length x_seenMany x_first x_behind x_readFacts x_readMembers x_readLeeches x_clauses x_doing x_row x_hasNow x_knowsNow x_isOff) sz) := by
  refine Met.ofW (cc := cX8_gone) (maxL := 4) (ret := (some .int)) (by decide) rfl ?_
  intro p e s m args below meth cd s₁ B hml hv
  obtain ⟨rfl, hsz, hP, hK, hD0, hV⟩ := hv
  subst hsz
  have hl := lv_entry [.ref a_this, .int v1, .int v2] (n := 4) (Nat.le_of_ble_eq_true rfl)
  rw [lg_entry_eq]
  exact kX8_gone_0 (A := va_A (wX8_gone c a_this a_row a_isKept a_text a_seenMember a_seenMinutes a_seenFact a_seenKnew a_sizes a_sorts a_places a_belows a_clubWord a_factWord a_memberWord a_commonWord a_stripedWord a_greedyWord a_bishopWord a_muffWord a_onWord a_line a_bestLine a_moved a_movedBelow x_undos x_length x_seenMany x_first x_behind x_readFacts x_readMembers x_readLeeches x_clauses x_doing x_row x_hasNow x_knowsNow x_isOff) s.heap.size) ⟨B.exec, B.bytes, hml, B.returns, findClass_of_methodNamed B.named, atoms_spec (ws := wsX8_gone) B.pre, B.notSynchronized, fun q h => Or.inr h, hK⟩ a_this a_row a_isKept a_text a_seenMember a_seenMinutes a_seenFact a_seenKnew a_sizes a_sorts a_places a_belows a_clubWord a_factWord a_memberWord a_commonWord a_stripedWord a_greedyWord a_bishopWord a_muffWord a_onWord a_line a_bestLine a_moved a_movedBelow x_undos x_length x_seenMany x_first x_behind x_readFacts x_readMembers x_readLeeches x_clauses x_doing n r_ret rm_row rm_hasNow rm_knowsNow rm_isOff x_row x_hasNow x_knowsNow x_isOff v1 v2 h s.heap [] _ hP hD0.self va_S.rf hl

abbrev wX8_boy (c : Nat → ClassId) (a_this : Nat) (a_row : Nat) (a_isKept : Nat) (a_text : Nat) (a_seenMember : Nat) (a_seenMinutes : Nat) (a_seenFact : Nat) (a_seenKnew : Nat) (a_sizes : Nat) (a_sorts : Nat) (a_places : Nat) (a_belows : Nat) (a_clubWord : Nat) (a_factWord : Nat) (a_memberWord : Nat) (a_commonWord : Nat) (a_stripedWord : Nat) (a_greedyWord : Nat) (a_bishopWord : Nat) (a_muffWord : Nat) (a_onWord : Nat) (a_line : Nat) (a_bestLine : Nat) (a_moved : Nat) (a_movedBelow : Nat) (x_undos : Int32) (x_length : Int32) (x_seenMany : Int32) (x_first : Int32) (x_behind : Int32) (x_readFacts : Int32) (x_readMembers : Int32) (x_readLeeches : Int32) (x_clauses : Int32) (x_doing : Int32) (x_hasNow : Int32) (x_knowsNow : Int32) (x_isOff : Int32) (x_row : Nat → Int32) : va_W := [(a_this, .inr (8, [.ref a_row, .int x_undos, .ref a_isKept, .ref a_text, .int x_length, .int x_seenMany, .ref a_seenMember, .ref a_seenMinutes, .ref a_seenFact, .ref a_seenKnew, .ref a_sizes, .ref a_sorts, .ref a_places, .ref a_belows, .int x_first, .int x_behind, .int x_readFacts, .int x_readMembers, .int x_readLeeches, .int x_clauses, .int x_doing, .ref a_clubWord, .ref a_factWord, .ref a_memberWord, .ref a_commonWord, .ref a_stripedWord, .ref a_greedyWord, .ref a_bishopWord, .ref a_muffWord, .ref a_onWord, .int x_hasNow, .int x_knowsNow, .int x_isOff, .ref a_line, .ref a_bestLine, .ref a_moved, .ref a_movedBelow])), (a_row, .inl (c 0, 624, .inl x_row))]
def GX8_boy (p : Program) (l : Launch) (e : Env) (s : State) (m : MethodId) (args : Array Value) (below : List Frame) (meth : Method) (cd : Code) (D : va_G) (c : Nat → ClassId) (A : Nat → Prop) (a_this : Nat) (a_row : Nat) (a_isKept : Nat) (a_text : Nat) (a_seenMember : Nat) (a_seenMinutes : Nat) (a_seenFact : Nat) (a_seenKnew : Nat) (a_sizes : Nat) (a_sorts : Nat) (a_places : Nat) (a_belows : Nat) (a_clubWord : Nat) (a_factWord : Nat) (a_memberWord : Nat) (a_commonWord : Nat) (a_stripedWord : Nat) (a_greedyWord : Nat) (a_bishopWord : Nat) (a_muffWord : Nat) (a_onWord : Nat) (a_line : Nat) (a_bestLine : Nat) (a_moved : Nat) (a_movedBelow : Nat) (x_undos : Int32) (x_length : Int32) (x_seenMany : Int32) (x_first : Int32) (x_behind : Int32) (x_readFacts : Int32) (x_readMembers : Int32) (x_readLeeches : Int32) (x_clauses : Int32) (x_doing : Int32) (x_hasNow : Int32) (x_knowsNow : Int32) (x_isOff : Int32) (x_row : Nat → Int32) (r_ret : Int32) (pc : Nat) (st : List Value) (loc : List (Nat × Value)) : Prop :=
  ∀ (H : Heap) (locs : List Loc) (ls : Array Slot), va_P D vwCl (wX8_boy c a_this a_row a_isKept a_text a_seenMember a_seenMinutes a_seenFact a_seenKnew a_sizes a_sorts a_places a_belows a_clubWord a_factWord a_memberWord a_commonWord a_stripedWord a_greedyWord a_bishopWord a_muffWord a_onWord a_line a_bestLine a_moved a_movedBelow x_undos x_length x_seenMany x_first x_behind x_readFacts x_readMembers x_readLeeches x_clauses x_doing x_hasNow x_knowsNow x_isOff x_row) H → va_D A (wX8_boy c a_this a_row a_isKept a_text a_seenMember a_seenMinutes a_seenFact a_seenKnew a_sizes a_sorts a_places a_belows a_clubWord a_factWord a_memberWord a_commonWord a_stripedWord a_greedyWord a_bishopWord a_muffWord a_onWord a_line a_bestLine a_moved a_movedBelow x_undos x_length x_seenMany x_first x_behind x_readFacts x_readMembers x_readLeeches x_clauses x_doing x_hasNow x_knowsNow x_isOff x_row) → va_S A s.heap H locs → lv_has ls 3 loc → W p l e ({ frames := 0, cells := 0, slots := 0, locals := 0 } : Room) s m args below meth cd H locs 0 0 (MQ below (xQi D (xT c) A r_ret (wX8_boy c a_this a_row a_isKept a_text a_seenMember a_seenMinutes a_seenFact a_seenKnew a_sizes a_sorts a_places a_belows a_clubWord a_factWord a_memberWord a_commonWord a_stripedWord a_greedyWord a_bishopWord a_muffWord a_onWord a_line a_bestLine a_moved a_movedBelow x_undos x_length x_seenMany x_first x_behind x_readFacts x_readMembers x_readLeeches x_clauses x_doing x_hasNow x_knowsNow x_isOff x_row)) args s 0 0 A) (F0 m pc ls st)
theorem lkX8_boy_f7 : Cond.fieldLink RX8 7 "LeechClubModel" "row" "[I" ∈ wsX8_boy := by decide +kernel
theorem inX8_boy_X8 : ∀ w ∈ wsX80, w ∈ wsX8_boy := by decide +kernel
set_option maxHeartbeats 4000000 in
set_option maxRecDepth 100000 in
theorem kX8_boy_45 {p : Program} {l : Launch} {e : Env} {s : State} {m : MethodId} {args : Array Value} {below : List Frame} {meth : Method} {cd : Code} {D : va_G} {c : Nat → ClassId} {A : Nat → Prop} (E0 : xE p s m args meth cd D (xT c) A RX8 cX8_boy 3 (some .int) wsX8_boy) (a_this : Nat) (a_row : Nat) (a_isKept : Nat) (a_text : Nat) (a_seenMember : Nat) (a_seenMinutes : Nat) (a_seenFact : Nat) (a_seenKnew : Nat) (a_sizes : Nat) (a_sorts : Nat) (a_places : Nat) (a_belows : Nat) (a_clubWord : Nat) (a_factWord : Nat) (a_memberWord : Nat) (a_commonWord : Nat) (a_stripedWord : Nat) (a_greedyWord : Nat) (a_bishopWord : Nat) (a_muffWord : Nat) (a_onWord : Nat) (a_line : Nat) (a_bestLine : Nat) (a_moved : Nat) (a_movedBelow : Nat) (x_undos : Int32) (x_length : Int32) (x_seenMany : Int32) (x_first : Int32) (x_behind : Int32) (x_readFacts : Int32) (x_readMembers : Int32) (x_readLeeches : Int32) (x_clauses : Int32) (x_doing : Int32) (x_hasNow : Int32) (x_knowsNow : Int32) (x_isOff : Int32) (x_row : Nat → Int32) (n : Nat) (r_ret : Int32) (r_4 : Int32 → Int32 → Option (Int32)) (h_4 : ∀ (v1 : Int32) (v2 : Int32), r_4 v1 v2 = some (r_ret) → GX8_boy p l e s m args below meth cd D c A a_this a_row a_isKept a_text a_seenMember a_seenMinutes a_seenFact a_seenKnew a_sizes a_sorts a_places a_belows a_clubWord a_factWord a_memberWord a_commonWord a_stripedWord a_greedyWord a_bishopWord a_muffWord a_onWord a_line a_bestLine a_moved a_movedBelow x_undos x_length x_seenMany x_first x_behind x_readFacts x_readMembers x_readLeeches x_clauses x_doing x_hasNow x_knowsNow x_isOff x_row r_ret 4 [] [(0, .ref a_this), (1, .int v1), (2, .int v2)]) (v2 : Int32) (t0 : Int32) (t1 : Int32) (hr : fX8_boy_45 n r_4 x_row v2 t0 t1 = some (r_ret)) : GX8_boy p l e s m args below meth cd D c A a_this a_row a_isKept a_text a_seenMember a_seenMinutes a_seenFact a_seenKnew a_sizes a_sorts a_places a_belows a_clubWord a_factWord a_memberWord a_commonWord a_stripedWord a_greedyWord a_bishopWord a_muffWord a_onWord a_line a_bestLine a_moved a_movedBelow x_undos x_length x_seenMany x_first x_behind x_readFacts x_readMembers x_readLeeches x_clauses x_doing x_hasNow x_knowsNow x_isOff x_row r_ret 45 [.int t1, .int t0] [(0, .ref a_this), (2, .int v2)] := by
  have E1 := E0
  obtain ⟨hx, hb, hml, hret, hown, hts, hlocks, hA, hK⟩ := E1
  intro H locs ls hP hD hS hl
  unfold fX8_boy_45 at hr
  refine lv_ior hx hb dX8_boy_45 ?_
  refine lv_istore_n (lv' := [(1, .int (t0 ||| t1)), (0, .ref a_this), (2, .int v2)]) hx hb dX8_boy_46 rfl hl (by decide) rfl (fun ls hl => ?_)
  refine lv_iinc (v := v2 + 1) (lv' := [(2, .int (v2 + 1)), (1, .int (t0 ||| t1)), (0, .ref a_this)]) hx hb dX8_boy_47 hl (k := 2) rfl rfl (by decide) rfl (fun ls hl => ?_)
  refine lv_goto (tgt := 4) hx hb dX8_boy_50 (by decide) ?_
  exact h_4 (t0 ||| t1) (v2 + 1) hr H locs ls hP hD hS (lv_sub hl [2, 1, 0] rfl)
set_option maxHeartbeats 4000000 in
set_option maxRecDepth 100000 in
theorem kX8_boy_4 {p : Program} {l : Launch} {e : Env} {s : State} {m : MethodId} {args : Array Value} {below : List Frame} {meth : Method} {cd : Code} {D : va_G} {c : Nat → ClassId} {A : Nat → Prop} (E0 : xE p s m args meth cd D (xT c) A RX8 cX8_boy 3 (some .int) wsX8_boy) (a_this : Nat) (a_row : Nat) (a_isKept : Nat) (a_text : Nat) (a_seenMember : Nat) (a_seenMinutes : Nat) (a_seenFact : Nat) (a_seenKnew : Nat) (a_sizes : Nat) (a_sorts : Nat) (a_places : Nat) (a_belows : Nat) (a_clubWord : Nat) (a_factWord : Nat) (a_memberWord : Nat) (a_commonWord : Nat) (a_stripedWord : Nat) (a_greedyWord : Nat) (a_bishopWord : Nat) (a_muffWord : Nat) (a_onWord : Nat) (a_line : Nat) (a_bestLine : Nat) (a_moved : Nat) (a_movedBelow : Nat) (x_undos : Int32) (x_length : Int32) (x_seenMany : Int32) (x_first : Int32) (x_behind : Int32) (x_readFacts : Int32) (x_readMembers : Int32) (x_readLeeches : Int32) (x_clauses : Int32) (x_doing : Int32) (x_hasNow : Int32) (x_knowsNow : Int32) (x_isOff : Int32) (x_row : Nat → Int32) (n : Nat) (r_ret : Int32) : ∀ (k : Nat) (v1 : Int32) (v2 : Int32), fX8_boy_4 n x_row k v1 v2 = some (r_ret) → GX8_boy p l e s m args below meth cd D c A a_this a_row a_isKept a_text a_seenMember a_seenMinutes a_seenFact a_seenKnew a_sizes a_sorts a_places a_belows a_clubWord a_factWord a_memberWord a_commonWord a_stripedWord a_greedyWord a_bishopWord a_muffWord a_onWord a_line a_bestLine a_moved a_movedBelow x_undos x_length x_seenMany x_first x_behind x_readFacts x_readMembers x_readLeeches x_clauses x_doing x_hasNow x_knowsNow x_isOff x_row r_ret 4 [] [(0, .ref a_this), (1, .int v1), (2, .int v2)] := by
  have E1 := E0
  obtain ⟨hx, hb, hml, hret, hown, hts, hlocks, hA, hK⟩ := E1
  intro k
  induction k with
  | zero => intro v1 v2 hr; cases hr
  | succ k h_4 =>
    intro v1 v2 hr H locs ls hP hD hS hl
    unfold fX8_boy_4 at hr
    refine lv_iload_n hx hb dX8_boy_4 rfl (lv_at hl 2 rfl) ?_
    refine lv_aload_n hx hb dX8_boy_5 rfl (lv_at hl 0 rfl) ?_
    refine va_get (D := D) (ci := 8) (v := .ref a_row) (C := RX8) (T := TX8) (N := 37) hx hb hts inX8_boy_X8 hown hK hP 0 rfl rfl 0 (by decide) (hts _ lkX8_boy_f7) (fun _ h9 => h9) rfl dX8_boy_6 ?_
    refine lv_bipush (v := 23) hx hb dX8_boy_9 (by decide) ?_
    refine va_iald hx hb hK hP 1 0 rfl rfl (by unfold vp_in; decide) dX8_boy_11 ?_
    refine W.eq (g2 := F0 m 12 ls [.int (x_row 23), .int v2]) rfl ?_
    refine lv_icmp_ge (tgt := 53) hx hb dX8_boy_12 (by decide) (fun c_1 => ?_) (fun c_1 => ?_)
    · have hr := x_ift hr c_1
      refine lv_iload_n hx hb dX8_boy_53 rfl (lv_at hl 1 rfl) ?_
      have e0 := x_some hr
      subst e0
      exact x_reti hx hb hret hlocks hP hD hK hS dX8_boy_54
    · have hr := x_iff hr c_1
      refine lv_iload_n hx hb dX8_boy_15 rfl (lv_at hl 1 rfl) ?_
      refine lv_aload_n hx hb dX8_boy_16 rfl (lv_at hl 0 rfl) ?_
      refine va_get (D := D) (ci := 8) (v := .ref a_row) (C := RX8) (T := TX8) (N := 37) hx hb hts inX8_boy_X8 hown hK hP 0 rfl rfl 0 (by decide) (hts _ lkX8_boy_f7) (fun _ h9 => h9) rfl dX8_boy_17 ?_
      refine lv_bipush (v := 36) hx hb dX8_boy_20 (by decide) ?_
      refine lv_iload_n hx hb dX8_boy_22 rfl (lv_at hl 2 rfl) ?_
      refine lv_iadd hx hb dX8_boy_23 ?_
      obtain ⟨b_2, hr⟩ := x_chk hr
      refine va_iald hx hb hK hP 1 0 rfl rfl b_2 dX8_boy_24 ?_
      refine lv_aload_n hx hb dX8_boy_25 rfl (lv_at hl 0 rfl) ?_
      refine va_get (D := D) (ci := 8) (v := .ref a_row) (C := RX8) (T := TX8) (N := 37) hx hb hts inX8_boy_X8 hown hK hP 0 rfl rfl 0 (by decide) (hts _ lkX8_boy_f7) (fun _ h9 => h9) rfl dX8_boy_26 ?_
      refine lv_bipush (v := 14) hx hb dX8_boy_29 (by decide) ?_
      refine va_iald hx hb hK hP 1 0 rfl rfl (by unfold vp_in; decide) dX8_boy_31 ?_
      refine W.eq (g2 := F0 m 32 ls [.int (x_row 14), .int (x_row (36 + v2).toNatClampNeg), .int v1]) rfl ?_
      refine lv_iconst (v := (-1)) hx hb dX8_boy_32 (by decide) ?_
      refine lv_ixor hx hb dX8_boy_33 ?_
      refine lv_iand hx hb dX8_boy_34 ?_
      refine lv_if_ne (tgt := 44) hx hb dX8_boy_35 (by decide) (fun c_3 => ?_) (fun c_3 => ?_)
      · have hr := x_iff hr c_3
        refine lv_iconst (v := 0) hx hb dX8_boy_44 (by decide) ?_
        exact kX8_boy_45 E0 a_this a_row a_isKept a_text a_seenMember a_seenMinutes a_seenFact a_seenKnew a_sizes a_sorts a_places a_belows a_clubWord a_factWord a_memberWord a_commonWord a_stripedWord a_greedyWord a_bishopWord a_muffWord a_onWord a_line a_bestLine a_moved a_movedBelow x_undos x_length x_seenMany x_first x_behind x_readFacts x_readMembers x_readLeeches x_clauses x_doing x_hasNow x_knowsNow x_isOff x_row n r_ret (fX8_boy_4 n x_row k) h_4 v2 v1 0 hr H locs ls hP hD hS (lv_sub hl [0, 2] rfl)
      · have hr := x_ift hr c_3
        refine lv_iconst (v := 1) hx hb dX8_boy_38 (by decide) ?_
        refine lv_iload_n hx hb dX8_boy_39 rfl (lv_at hl 2 rfl) ?_
        refine lv_ishl hx hb dX8_boy_40 ?_
        refine lv_goto (tgt := 45) hx hb dX8_boy_41 (by decide) ?_
        exact kX8_boy_45 E0 a_this a_row a_isKept a_text a_seenMember a_seenMinutes a_seenFact a_seenKnew a_sizes a_sorts a_places a_belows a_clubWord a_factWord a_memberWord a_commonWord a_stripedWord a_greedyWord a_bishopWord a_muffWord a_onWord a_line a_bestLine a_moved a_movedBelow x_undos x_length x_seenMany x_first x_behind x_readFacts x_readMembers x_readLeeches x_clauses x_doing x_hasNow x_knowsNow x_isOff x_row n r_ret (fX8_boy_4 n x_row k) h_4 v2 v1 (1 <<< (v2 &&& 31)) hr H locs ls hP hD hS (lv_sub hl [0, 2] rfl)
set_option maxHeartbeats 4000000 in
set_option maxRecDepth 100000 in
theorem kX8_boy_0 {p : Program} {l : Launch} {e : Env} {s : State} {m : MethodId} {args : Array Value} {below : List Frame} {meth : Method} {cd : Code} {D : va_G} {c : Nat → ClassId} {A : Nat → Prop} (E0 : xE p s m args meth cd D (xT c) A RX8 cX8_boy 3 (some .int) wsX8_boy) (a_this : Nat) (a_row : Nat) (a_isKept : Nat) (a_text : Nat) (a_seenMember : Nat) (a_seenMinutes : Nat) (a_seenFact : Nat) (a_seenKnew : Nat) (a_sizes : Nat) (a_sorts : Nat) (a_places : Nat) (a_belows : Nat) (a_clubWord : Nat) (a_factWord : Nat) (a_memberWord : Nat) (a_commonWord : Nat) (a_stripedWord : Nat) (a_greedyWord : Nat) (a_bishopWord : Nat) (a_muffWord : Nat) (a_onWord : Nat) (a_line : Nat) (a_bestLine : Nat) (a_moved : Nat) (a_movedBelow : Nat) (x_undos : Int32) (x_length : Int32) (x_seenMany : Int32) (x_first : Int32) (x_behind : Int32) (x_readFacts : Int32) (x_readMembers : Int32) (x_readLeeches : Int32) (x_clauses : Int32) (x_doing : Int32) (x_hasNow : Int32) (x_knowsNow : Int32) (x_isOff : Int32) (x_row : Nat → Int32) (n : Nat) (r_ret : Int32) (hr : fX8_boy n x_row = some (r_ret)) : GX8_boy p l e s m args below meth cd D c A a_this a_row a_isKept a_text a_seenMember a_seenMinutes a_seenFact a_seenKnew a_sizes a_sorts a_places a_belows a_clubWord a_factWord a_memberWord a_commonWord a_stripedWord a_greedyWord a_bishopWord a_muffWord a_onWord a_line a_bestLine a_moved a_movedBelow x_undos x_length x_seenMany x_first x_behind x_readFacts x_readMembers x_readLeeches x_clauses x_doing x_hasNow x_knowsNow x_isOff x_row r_ret 0 [] [(0, .ref a_this)] := by
  have E1 := E0
  obtain ⟨hx, hb, hml, hret, hown, hts, hlocks, hA, hK⟩ := E1
  intro H locs ls hP hD hS hl
  unfold fX8_boy at hr
  refine lv_iconst (v := 0) hx hb dX8_boy_0 (by decide) ?_
  refine lv_istore_n (lv' := [(1, .int 0), (0, .ref a_this)]) hx hb dX8_boy_1 rfl hl (by decide) rfl (fun ls hl => ?_)
  refine lv_iconst (v := 0) hx hb dX8_boy_2 (by decide) ?_
  refine lv_istore_n (lv' := [(2, .int 0), (1, .int 0), (0, .ref a_this)]) hx hb dX8_boy_3 rfl hl (by decide) rfl (fun ls hl => ?_)
  exact kX8_boy_4 E0 a_this a_row a_isKept a_text a_seenMember a_seenMinutes a_seenFact a_seenKnew a_sizes a_sorts a_places a_belows a_clubWord a_factWord a_memberWord a_commonWord a_stripedWord a_greedyWord a_bishopWord a_muffWord a_onWord a_line a_bestLine a_moved a_movedBelow x_undos x_length x_seenMany x_first x_behind x_readFacts x_readMembers x_readLeeches x_clauses x_doing x_hasNow x_knowsNow x_isOff x_row n r_ret n 0 0 hr H locs ls hP hD hS (lv_sub hl [2, 1, 0] rfl)
set_option maxHeartbeats 4000000 in
set_option maxRecDepth 100000 in
theorem mX8_boy (l : Launch) (D : va_G) (c : Nat → ClassId) (a_this : Nat) (a_row : Nat) (a_isKept : Nat) (a_text : Nat) (a_seenMember : Nat) (a_seenMinutes : Nat) (a_seenFact : Nat) (a_seenKnew : Nat) (a_sizes : Nat) (a_sorts : Nat) (a_places : Nat) (a_belows : Nat) (a_clubWord : Nat) (a_factWord : Nat) (a_memberWord : Nat) (a_commonWord : Nat) (a_stripedWord : Nat) (a_greedyWord : Nat) (a_bishopWord : Nat) (a_muffWord : Nat) (a_onWord : Nat) (a_line : Nat) (a_bestLine : Nat) (a_moved : Nat) (a_movedBelow : Nat) (sz : Nat) (x_undos : Int32) (x_length : Int32) (x_seenMany : Int32) (x_first : Int32) (x_behind : Int32) (x_readFacts : Int32) (x_readMembers : Int32) (x_readLeeches : Int32) (x_clauses : Int32) (x_doing : Int32) (x_hasNow : Int32) (x_knowsNow : Int32) (x_isOff : Int32) (x_row : Nat → Int32) (n : Nat) (r_ret : Int32) (h : fX8_boy n x_row = some (r_ret)) : Met l yX8_boy wsX8_boy ({ frames := 0, cells := 0, slots := 0, locals := 0 } : Room) (xPc D (xT c) sz [.ref a_this] (wX8_boy c a_this a_row a_isKept a_text a_seenMember a_seenMinutes a_seenFact a_seenKnew a_sizes a_sorts a_places a_belows a_clubWord a_factWord a_memberWord a_commonWord a_stripedWord a_greedyWord a_bishopWord a_muffWord a_onWord a_line a_bestLine a_moved a_movedBelow x_undos x_length x_seenMany x_first x_behind x_readFacts x_readMembers x_readLeeches x_clauses x_doing x_hasNow x_knowsNow x_isOff x_row) (fun _ => True)) (xQi D (xT c) (va_A (wX8_boy c a_this a_row a_isKept a_text a_seenMember a_seenMinutes a_seenFact a_seenKnew a_sizes a_sorts a_places a_belows a_clubWord a_factWord a_memberWord a_commonWord a_stripedWord a_greedyWord a_bishopWord a_muffWord a_onWord a_line a_bestLine a_moved a_movedBelow x_undos x_length x_seenMany x_first x_behind x_readFacts x_readMembers x_readLeeches x_clauses x_doing x_hasNow x_knowsNow x_isOff x_row) sz) r_ret (wX8_boy c a_this a_row a_isKept a_text a_seenMember a_seenMinutes a_seenFact a_seenKnew a_sizes a_sorts a_places a_belows a_clubWord a_factWord a_memberWord a_commonWord a_stripedWord a_greedyWord a_bishopWord a_muffWord a_onWord a_line a_bestLine a_moved a_movedBelow x_undos x_length x_seenMany x_first x_behind x_readFacts x_readMembers x_readLeeches x_clauses x_doing x_hasNow x_knowsNow x_isOff x_row)) 0 0 (va_A (wX8_boy c a_this a_row a_isKept a_text a_seenMember a_seenMinutes a_seenFact a_seenKnew a_sizes a_sorts a_places a_belows a_clubWord a_factWord a_memberWord a_commonWord a_stripedWord a_greedyWord a_bishopWord a_muffWord a_onWord a_line a_bestLine a_moved a_movedBelow x_undos x_length x_seenMany x_first x_behind x_readFacts x_readMembers x_readLeeches x_clauses x_doing x_hasNow x_knowsNow x_isOff x_row) sz) := by
  refine Met.ofW (cc := cX8_boy) (maxL := 3) (ret := (some .int)) (by decide) rfl ?_
  intro p e s m args below meth cd s₁ B hml hv
  obtain ⟨rfl, hsz, hP, hK, hD0, hV⟩ := hv
  subst hsz
  have hl := lv_entry [.ref a_this] (n := 3) (Nat.le_of_ble_eq_true rfl)
  rw [lg_entry_eq]
  exact kX8_boy_0 (A := va_A (wX8_boy c a_this a_row a_isKept a_text a_seenMember a_seenMinutes a_seenFact a_seenKnew a_sizes a_sorts a_places a_belows a_clubWord a_factWord a_memberWord a_commonWord a_stripedWord a_greedyWord a_bishopWord a_muffWord a_onWord a_line a_bestLine a_moved a_movedBelow x_undos x_length x_seenMany x_first x_behind x_readFacts x_readMembers x_readLeeches x_clauses x_doing x_hasNow x_knowsNow x_isOff x_row) s.heap.size) ⟨B.exec, B.bytes, hml, B.returns, findClass_of_methodNamed B.named, atoms_spec (ws := wsX8_boy) B.pre, B.notSynchronized, fun q h => Or.inr h, hK⟩ a_this a_row a_isKept a_text a_seenMember a_seenMinutes a_seenFact a_seenKnew a_sizes a_sorts a_places a_belows a_clubWord a_factWord a_memberWord a_commonWord a_stripedWord a_greedyWord a_bishopWord a_muffWord a_onWord a_line a_bestLine a_moved a_movedBelow x_undos x_length x_seenMany x_first x_behind x_readFacts x_readMembers x_readLeeches x_clauses x_doing x_hasNow x_knowsNow x_isOff x_row n r_ret h s.heap [] _ hP hD0.self va_S.rf hl

abbrev wX8_isSo (c : Nat → ClassId) : va_W := []
def GX8_isSo (p : Program) (l : Launch) (e : Env) (s : State) (m : MethodId) (args : Array Value) (below : List Frame) (meth : Method) (cd : Code) (D : va_G) (c : Nat → ClassId) (A : Nat → Prop) (r_ret : Int32) (pc : Nat) (st : List Value) (loc : List (Nat × Value)) : Prop :=
  ∀ (H : Heap) (locs : List Loc) (ls : Array Slot), va_P D vwCl (wX8_isSo c) H → va_D A (wX8_isSo c) → va_S A s.heap H locs → lv_has ls 3 loc → W p l e ({ frames := 0, cells := 0, slots := 0, locals := 0 } : Room) s m args below meth cd H locs 0 0 (MQ below (xQi D (xT c) A r_ret (wX8_isSo c)) args s 0 0 A) (F0 m pc ls st)
set_option maxHeartbeats 4000000 in
set_option maxRecDepth 100000 in
theorem kX8_isSo_19 {p : Program} {l : Launch} {e : Env} {s : State} {m : MethodId} {args : Array Value} {below : List Frame} {meth : Method} {cd : Code} {D : va_G} {c : Nat → ClassId} {A : Nat → Prop} (E0 : xE p s m args meth cd D (xT c) A RX8 cX8_isSo 3 (some .boolean) wsX8_isSo) (n : Nat) (r_ret : Int32) (t0 : Int32) (hr : fX8_isSo_19 n t0 = some (r_ret)) : GX8_isSo p l e s m args below meth cd D c A r_ret 19 [.int t0] [] := by
  have E1 := E0
  obtain ⟨hx, hb, hml, hret, hown, hts, hlocks, hA, hK⟩ := E1
  intro H locs ls hP hD hS hl
  unfold fX8_isSo_19 at hr
  obtain ⟨hz, hr⟩ := x_need hr
  have e0 := x_some hr
  subst e0
  exact x_retz hx hb hret (x_nz hz) hlocks hP hD hK hS dX8_isSo_19
set_option maxHeartbeats 4000000 in
set_option maxRecDepth 100000 in
theorem kX8_isSo_18 {p : Program} {l : Launch} {e : Env} {s : State} {m : MethodId} {args : Array Value} {below : List Frame} {meth : Method} {cd : Code} {D : va_G} {c : Nat → ClassId} {A : Nat → Prop} (E0 : xE p s m args meth cd D (xT c) A RX8 cX8_isSo 3 (some .boolean) wsX8_isSo) (n : Nat) (r_ret : Int32) (hr : fX8_isSo_18 n = some (r_ret)) : GX8_isSo p l e s m args below meth cd D c A r_ret 18 [] [] := by
  have E1 := E0
  obtain ⟨hx, hb, hml, hret, hown, hts, hlocks, hA, hK⟩ := E1
  intro H locs ls hP hD hS hl
  unfold fX8_isSo_18 at hr
  refine lv_iconst (v := 0) hx hb dX8_isSo_18 (by decide) ?_
  exact kX8_isSo_19 E0 n r_ret 0 hr H locs ls hP hD hS (lv_sub hl [] rfl)
set_option maxHeartbeats 4000000 in
set_option maxRecDepth 100000 in
theorem kX8_isSo_0 {p : Program} {l : Launch} {e : Env} {s : State} {m : MethodId} {args : Array Value} {below : List Frame} {meth : Method} {cd : Code} {D : va_G} {c : Nat → ClassId} {A : Nat → Prop} (E0 : xE p s m args meth cd D (xT c) A RX8 cX8_isSo 3 (some .boolean) wsX8_isSo) (n : Nat) (r_ret : Int32) (v0 : Int32) (v1 : Int32) (v2 : Int32) (hr : fX8_isSo n v0 v1 v2 = some (r_ret)) : GX8_isSo p l e s m args below meth cd D c A r_ret 0 [] [(0, .int v0), (1, .int v1), (2, .int v2)] := by
  have E1 := E0
  obtain ⟨hx, hb, hml, hret, hown, hts, hlocks, hA, hK⟩ := E1
  intro H locs ls hP hD hS hl
  unfold fX8_isSo at hr
  refine lv_iload_n hx hb dX8_isSo_0 rfl (lv_at hl 0 rfl) ?_
  refine lv_iload_n hx hb dX8_isSo_1 rfl (lv_at hl 1 rfl) ?_
  refine lv_iand hx hb dX8_isSo_2 ?_
  refine lv_if_ne (tgt := 18) hx hb dX8_isSo_3 (by decide) (fun c_1 => ?_) (fun c_1 => ?_)
  · have hr := x_iff hr c_1
    exact kX8_isSo_18 E0 n r_ret hr H locs ls hP hD hS (lv_sub hl [] rfl)
  · have hr := x_ift hr c_1
    refine lv_iload_n hx hb dX8_isSo_6 rfl (lv_at hl 2 rfl) ?_
    refine lv_iload_n hx hb dX8_isSo_7 rfl (lv_at hl 0 rfl) ?_
    refine lv_iconst (v := (-1)) hx hb dX8_isSo_8 (by decide) ?_
    refine lv_ixor hx hb dX8_isSo_9 ?_
    refine lv_iand hx hb dX8_isSo_10 ?_
    refine lv_if_ne (tgt := 18) hx hb dX8_isSo_11 (by decide) (fun c_2 => ?_) (fun c_2 => ?_)
    · have hr := x_iff hr c_2
      exact kX8_isSo_18 E0 n r_ret hr H locs ls hP hD hS (lv_sub hl [] rfl)
    · have hr := x_ift hr c_2
      refine lv_iconst (v := 1) hx hb dX8_isSo_14 (by decide) ?_
      refine lv_goto (tgt := 19) hx hb dX8_isSo_15 (by decide) ?_
      exact kX8_isSo_19 E0 n r_ret 1 hr H locs ls hP hD hS (lv_sub hl [] rfl)
set_option maxHeartbeats 4000000 in
set_option maxRecDepth 100000 in
theorem mX8_isSo (l : Launch) (D : va_G) (c : Nat → ClassId) (sz : Nat) (v0 : Int32) (v1 : Int32) (v2 : Int32) (n : Nat) (r_ret : Int32) (h : fX8_isSo n v0 v1 v2 = some (r_ret)) : Met l yX8_isSo wsX8_isSo ({ frames := 0, cells := 0, slots := 0, locals := 0 } : Room) (xPc D (xT c) sz [.int v0, .int v1, .int v2] (wX8_isSo c) (fun _ => True)) (xQi D (xT c) (va_A (wX8_isSo c) sz) r_ret (wX8_isSo c)) 0 0 (va_A (wX8_isSo c) sz) := by
  refine Met.ofW (cc := cX8_isSo) (maxL := 3) (ret := (some .boolean)) (by decide) rfl ?_
  intro p e s m args below meth cd s₁ B hml hv
  obtain ⟨rfl, hsz, hP, hK, hD0, hV⟩ := hv
  subst hsz
  have hl := lv_entry [.int v0, .int v1, .int v2] (n := 3) (Nat.le_of_ble_eq_true rfl)
  rw [lg_entry_eq]
  exact kX8_isSo_0 (A := va_A (wX8_isSo c) s.heap.size) ⟨B.exec, B.bytes, hml, B.returns, findClass_of_methodNamed B.named, atoms_spec (ws := wsX8_isSo) B.pre, B.notSynchronized, fun q h => Or.inr h, hK⟩ n r_ret v0 v1 v2 h s.heap [] _ hP hD0.self va_S.rf hl

