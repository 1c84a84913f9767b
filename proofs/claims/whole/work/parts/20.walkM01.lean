abbrev wX8_in (c : Nat → ClassId) : va_W := []
def GX8_in (p : Program) (l : Launch) (e : Env) (s : State) (m : MethodId) (args : Array Value) (below : List Frame) (meth : Method) (cd : Code) (D : va_G) (c : Nat → ClassId) (A : Nat → Prop) (r_ret : Int32) (pc : Nat) (st : List Value) (loc : List (Nat × Value)) : Prop :=
  ∀ (H : Heap) (locs : List Loc) (ls : Array Slot), va_P D vwCl (wX8_in c) H → va_D A (wX8_in c) → va_S A s.heap H locs → lv_has ls 6 loc → W p l e ({ frames := 0, cells := 0, slots := 0, locals := 0 } : Room) s m args below meth cd H locs 0 0 (MQ below (xQi D (xT c) A r_ret (wX8_in c)) args s 0 0 A) (F0 m pc ls st)
set_option maxHeartbeats 4000000 in
set_option maxRecDepth 100000 in
theorem kX8_in_18 {p : Program} {l : Launch} {e : Env} {s : State} {m : MethodId} {args : Array Value} {below : List Frame} {meth : Method} {cd : Code} {D : va_G} {c : Nat → ClassId} {A : Nat → Prop} (E0 : xE p s m args meth cd D (xT c) A RX8 cX8_in 6 (some .boolean) wsX8_in) (n : Nat) (r_ret : Int32) (t0 : Int32) (hr : fX8_in_18 n t0 = some (r_ret)) : GX8_in p l e s m args below meth cd D c A r_ret 18 [.int t0] [] := by
  have E1 := E0
  obtain ⟨hx, hb, hml, hret, hown, hts, hlocks, hA, hK⟩ := E1
  intro H locs ls hP hD hS hl
  unfold fX8_in_18 at hr
  obtain ⟨hz, hr⟩ := x_need hr
  have e0 := x_some hr
  subst e0
  exact x_retz hx hb hret (x_nz hz) hlocks hP hD hK hS dX8_in_18
set_option maxHeartbeats 4000000 in
set_option maxRecDepth 100000 in
theorem kX8_in_17 {p : Program} {l : Launch} {e : Env} {s : State} {m : MethodId} {args : Array Value} {below : List Frame} {meth : Method} {cd : Code} {D : va_G} {c : Nat → ClassId} {A : Nat → Prop} (E0 : xE p s m args meth cd D (xT c) A RX8 cX8_in 6 (some .boolean) wsX8_in) (n : Nat) (r_ret : Int32) (hr : fX8_in_17 n = some (r_ret)) : GX8_in p l e s m args below meth cd D c A r_ret 17 [] [] := by
  have E1 := E0
  obtain ⟨hx, hb, hml, hret, hown, hts, hlocks, hA, hK⟩ := E1
  intro H locs ls hP hD hS hl
  unfold fX8_in_17 at hr
  refine lv_iconst (v := 0) hx hb dX8_in_17 (by decide) ?_
  exact kX8_in_18 E0 n r_ret 0 hr H locs ls hP hD hS (lv_sub hl [] rfl)
set_option maxHeartbeats 4000000 in
set_option maxRecDepth 100000 in
theorem kX8_in_0 {p : Program} {l : Launch} {e : Env} {s : State} {m : MethodId} {args : Array Value} {below : List Frame} {meth : Method} {cd : Code} {D : va_G} {c : Nat → ClassId} {A : Nat → Prop} (E0 : xE p s m args meth cd D (xT c) A RX8 cX8_in 6 (some .boolean) wsX8_in) (n : Nat) (r_ret : Int32) (v0 : Int64) (v2 : Int64) (v4 : Int64) (hr : fX8_in n v0 v2 v4 = some (r_ret)) : GX8_in p l e s m args below meth cd D c A r_ret 0 [] [(0, .long v0), (2, .long v2), (4, .long v4)] := by
  have E1 := E0
  obtain ⟨hx, hb, hml, hret, hown, hts, hlocks, hA, hK⟩ := E1
  intro H locs ls hP hD hS hl
  unfold fX8_in at hr
  refine lv_lload_n hx hb dX8_in_0 rfl (lv_at hl 0 rfl) ?_
  refine lv_lload_n hx hb dX8_in_1 rfl (lv_at hl 1 rfl) ?_
  refine W.lcmp hx hb dX8_in_2 ?_
  refine lv_if_lt (tgt := 17) hx hb dX8_in_3 (by decide) (fun c_1 => ?_) (fun c_1 => ?_)
  · have hr := x_ift hr c_1
    exact kX8_in_17 E0 n r_ret hr H locs ls hP hD hS (lv_sub hl [] rfl)
  · have hr := x_iff hr c_1
    refine lv_lload_n hx hb dX8_in_6 rfl (lv_at hl 0 rfl) ?_
    refine lv_lload hx hb dX8_in_7 (lv_at hl 2 rfl) ?_
    refine W.lcmp hx hb dX8_in_9 ?_
    refine lv_if_gt (tgt := 17) hx hb dX8_in_10 (by decide) (fun c_2 => ?_) (fun c_2 => ?_)
    · have hr := x_ift hr c_2
      exact kX8_in_17 E0 n r_ret hr H locs ls hP hD hS (lv_sub hl [] rfl)
    · have hr := x_iff hr c_2
      refine lv_iconst (v := 1) hx hb dX8_in_13 (by decide) ?_
      refine lv_goto (tgt := 18) hx hb dX8_in_14 (by decide) ?_
      exact kX8_in_18 E0 n r_ret 1 hr H locs ls hP hD hS (lv_sub hl [] rfl)
set_option maxHeartbeats 4000000 in
set_option maxRecDepth 100000 in
theorem mX8_in (l : Launch) (D : va_G) (c : Nat → ClassId) (sz : Nat) (v0 : Int64) (v2 : Int64) (v4 : Int64) (n : Nat) (r_ret : Int32) (h : fX8_in n v0 v2 v4 = some (r_ret)) : Met l yX8_in wsX8_in ({ frames := 0, cells := 0, slots := 0, locals := 0 } : Room) (xPc D (xT c) sz [.long v0, .long v2, .long v4] (wX8_in c) (fun _ => True)) (xQi D (xT c) (va_A (wX8_in c) sz) r_ret (wX8_in c)) 0 0 (va_A (wX8_in c) sz) := by
  refine Met.ofW (cc := cX8_in) (maxL := 6) (ret := (some .boolean)) (by decide) rfl ?_
  intro p e s m args below meth cd s₁ B hml hv
  obtain ⟨rfl, hsz, hP, hK, hD0, hV⟩ := hv
  subst hsz
  have hl := lv_entry [.long v0, .long v2, .long v4] (n := 6) (Nat.le_of_ble_eq_true rfl)
  rw [lg_entry_eq]
  exact kX8_in_0 (A := va_A (wX8_in c) s.heap.size) ⟨B.exec, B.bytes, hml, B.returns, findClass_of_methodNamed B.named, atoms_spec (ws := wsX8_in) B.pre, B.notSynchronized, fun q h => Or.inr h, hK⟩ n r_ret v0 v2 v4 h s.heap [] _ hP hD0.self va_S.rf hl

abbrev wX8_has (c : Nat → ClassId) : va_W := []
def GX8_has (p : Program) (l : Launch) (e : Env) (s : State) (m : MethodId) (args : Array Value) (below : List Frame) (meth : Method) (cd : Code) (D : va_G) (c : Nat → ClassId) (A : Nat → Prop) (r_ret : Int32) (pc : Nat) (st : List Value) (loc : List (Nat × Value)) : Prop :=
  ∀ (H : Heap) (locs : List Loc) (ls : Array Slot), va_P D vwCl (wX8_has c) H → va_D A (wX8_has c) → va_S A s.heap H locs → lv_has ls 2 loc → W p l e ({ frames := 0, cells := 0, slots := 0, locals := 0 } : Room) s m args below meth cd H locs 0 0 (MQ below (xQi D (xT c) A r_ret (wX8_has c)) args s 0 0 A) (F0 m pc ls st)
set_option maxHeartbeats 4000000 in
set_option maxRecDepth 100000 in
theorem kX8_has_14 {p : Program} {l : Launch} {e : Env} {s : State} {m : MethodId} {args : Array Value} {below : List Frame} {meth : Method} {cd : Code} {D : va_G} {c : Nat → ClassId} {A : Nat → Prop} (E0 : xE p s m args meth cd D (xT c) A RX8 cX8_has 2 (some .boolean) wsX8_has) (n : Nat) (r_ret : Int32) (t0 : Int32) (hr : fX8_has_14 n t0 = some (r_ret)) : GX8_has p l e s m args below meth cd D c A r_ret 14 [.int t0] [] := by
  have E1 := E0
  obtain ⟨hx, hb, hml, hret, hown, hts, hlocks, hA, hK⟩ := E1
  intro H locs ls hP hD hS hl
  unfold fX8_has_14 at hr
  obtain ⟨hz, hr⟩ := x_need hr
  have e0 := x_some hr
  subst e0
  exact x_retz hx hb hret (x_nz hz) hlocks hP hD hK hS dX8_has_14
set_option maxHeartbeats 4000000 in
set_option maxRecDepth 100000 in
theorem kX8_has_0 {p : Program} {l : Launch} {e : Env} {s : State} {m : MethodId} {args : Array Value} {below : List Frame} {meth : Method} {cd : Code} {D : va_G} {c : Nat → ClassId} {A : Nat → Prop} (E0 : xE p s m args meth cd D (xT c) A RX8 cX8_has 2 (some .boolean) wsX8_has) (n : Nat) (r_ret : Int32) (v0 : Int32) (v1 : Int32) (hr : fX8_has n v0 v1 = some (r_ret)) : GX8_has p l e s m args below meth cd D c A r_ret 0 [] [(0, .int v0), (1, .int v1)] := by
  have E1 := E0
  obtain ⟨hx, hb, hml, hret, hown, hts, hlocks, hA, hK⟩ := E1
  intro H locs ls hP hD hS hl
  unfold fX8_has at hr
  refine lv_iload_n hx hb dX8_has_0 rfl (lv_at hl 0 rfl) ?_
  refine lv_iload_n hx hb dX8_has_1 rfl (lv_at hl 1 rfl) ?_
  refine lv_ishr hx hb dX8_has_2 ?_
  refine lv_iconst (v := 1) hx hb dX8_has_3 (by decide) ?_
  refine lv_iand hx hb dX8_has_4 ?_
  refine lv_iconst (v := 1) hx hb dX8_has_5 (by decide) ?_
  refine lv_icmp_ne (tgt := 13) hx hb dX8_has_6 (by decide) (fun c_1 => ?_) (fun c_1 => ?_)
  · have hr := x_iff hr c_1
    refine lv_iconst (v := 0) hx hb dX8_has_13 (by decide) ?_
    exact kX8_has_14 E0 n r_ret 0 hr H locs ls hP hD hS (lv_sub hl [] rfl)
  · have hr := x_ift hr c_1
    refine lv_iconst (v := 1) hx hb dX8_has_9 (by decide) ?_
    refine lv_goto (tgt := 14) hx hb dX8_has_10 (by decide) ?_
    exact kX8_has_14 E0 n r_ret 1 hr H locs ls hP hD hS (lv_sub hl [] rfl)
set_option maxHeartbeats 4000000 in
set_option maxRecDepth 100000 in
theorem mX8_has (l : Launch) (D : va_G) (c : Nat → ClassId) (sz : Nat) (v0 : Int32) (v1 : Int32) (n : Nat) (r_ret : Int32) (h : fX8_has n v0 v1 = some (r_ret)) : Met l yX8_has wsX8_has ({ frames := 0, cells := 0, slots := 0, locals := 0 } : Room) (xPc D (xT c) sz [.int v0, .int v1] (wX8_has c) (fun _ => True)) (xQi D (xT c) (va_A (wX8_has c) sz) r_ret (wX8_has c)) 0 0 (va_A (wX8_has c) sz) := by
  refine Met.ofW (cc := cX8_has) (maxL := 2) (ret := (some .boolean)) (by decide) rfl ?_
  intro p e s m args below meth cd s₁ B hml hv
  obtain ⟨rfl, hsz, hP, hK, hD0, hV⟩ := hv
  subst hsz
  have hl := lv_entry [.int v0, .int v1] (n := 2) (Nat.le_of_ble_eq_true rfl)
  rw [lg_entry_eq]
  exact kX8_has_0 (A := va_A (wX8_has c) s.heap.size) ⟨B.exec, B.bytes, hml, B.returns, findClass_of_methodNamed B.named, atoms_spec (ws := wsX8_has) B.pre, B.notSynchronized, fun q h => Or.inr h, hK⟩ n r_ret v0 v1 h s.heap [] _ hP hD0.self va_S.rf hl

abbrev wX8_bits (c : Nat → ClassId) : va_W := []
def GX8_bits (p : Program) (l : Launch) (e : Env) (s : State) (m : MethodId) (args : Array Value) (below : List Frame) (meth : Method) (cd : Code) (D : va_G) (c : Nat → ClassId) (A : Nat → Prop) (r_ret : Int32) (pc : Nat) (st : List Value) (loc : List (Nat × Value)) : Prop :=
  ∀ (H : Heap) (locs : List Loc) (ls : Array Slot), va_P D vwCl (wX8_bits c) H → va_D A (wX8_bits c) → va_S A s.heap H locs → lv_has ls 3 loc → W p l e ({ frames := 0, cells := 0, slots := 0, locals := 0 } : Room) s m args below meth cd H locs 0 0 (MQ below (xQi D (xT c) A r_ret (wX8_bits c)) args s 0 0 A) (F0 m pc ls st)
set_option maxHeartbeats 4000000 in
set_option maxRecDepth 100000 in
theorem kX8_bits_4 {p : Program} {l : Launch} {e : Env} {s : State} {m : MethodId} {args : Array Value} {below : List Frame} {meth : Method} {cd : Code} {D : va_G} {c : Nat → ClassId} {A : Nat → Prop} (E0 : xE p s m args meth cd D (xT c) A RX8 cX8_bits 3 (some .int) wsX8_bits) (n : Nat) (r_ret : Int32) : ∀ (k : Nat) (v0 : Int32) (v1 : Int32) (v2 : Int32), fX8_bits_4 n k v0 v1 v2 = some (r_ret) → GX8_bits p l e s m args below meth cd D c A r_ret 4 [] [(0, .int v0), (1, .int v1), (2, .int v2)] := by
  have E1 := E0
  obtain ⟨hx, hb, hml, hret, hown, hts, hlocks, hA, hK⟩ := E1
  intro k
  induction k with
  | zero => intro v0 v1 v2 hr; cases hr
  | succ k h_4 =>
    intro v0 v1 v2 hr H locs ls hP hD hS hl
    unfold fX8_bits_4 at hr
    refine lv_iload_n hx hb dX8_bits_4 rfl (lv_at hl 2 rfl) ?_
    refine lv_bipush (v := 12) hx hb dX8_bits_5 (by decide) ?_
    refine lv_icmp_ge (tgt := 24) hx hb dX8_bits_7 (by decide) (fun c_1 => ?_) (fun c_1 => ?_)
    · have hr := x_ift hr c_1
      refine lv_iload_n hx hb dX8_bits_24 rfl (lv_at hl 1 rfl) ?_
      have e0 := x_some hr
      subst e0
      exact x_reti hx hb hret hlocks hP hD hK hS dX8_bits_25
    · have hr := x_iff hr c_1
      refine lv_iload_n hx hb dX8_bits_10 rfl (lv_at hl 1 rfl) ?_
      refine lv_iload_n hx hb dX8_bits_11 rfl (lv_at hl 0 rfl) ?_
      refine lv_iload_n hx hb dX8_bits_12 rfl (lv_at hl 2 rfl) ?_
      refine lv_ishr hx hb dX8_bits_13 ?_
      refine lv_iconst (v := 1) hx hb dX8_bits_14 (by decide) ?_
      refine lv_iand hx hb dX8_bits_15 ?_
      refine lv_iadd hx hb dX8_bits_16 ?_
      refine lv_istore_n (lv' := [(1, .int (v1 + ((v0 >>> (v2 &&& 31)) &&& 1))), (0, .int v0), (2, .int v2)]) hx hb dX8_bits_17 rfl hl (by decide) rfl (fun ls hl => ?_)
      refine lv_iinc (v := v2 + 1) (lv' := [(2, .int (v2 + 1)), (1, .int (v1 + ((v0 >>> (v2 &&& 31)) &&& 1))), (0, .int v0)]) hx hb dX8_bits_18 hl (k := 2) rfl rfl (by decide) rfl (fun ls hl => ?_)
      refine lv_goto (tgt := 4) hx hb dX8_bits_21 (by decide) ?_
      exact h_4 v0 (v1 + ((v0 >>> (v2 &&& 31)) &&& 1)) (v2 + 1) hr H locs ls hP hD hS (lv_sub hl [2, 1, 0] rfl)
set_option maxHeartbeats 4000000 in
set_option maxRecDepth 100000 in
theorem kX8_bits_0 {p : Program} {l : Launch} {e : Env} {s : State} {m : MethodId} {args : Array Value} {below : List Frame} {meth : Method} {cd : Code} {D : va_G} {c : Nat → ClassId} {A : Nat → Prop} (E0 : xE p s m args meth cd D (xT c) A RX8 cX8_bits 3 (some .int) wsX8_bits) (n : Nat) (r_ret : Int32) (v0 : Int32) (hr : fX8_bits n v0 = some (r_ret)) : GX8_bits p l e s m args below meth cd D c A r_ret 0 [] [(0, .int v0)] := by
  have E1 := E0
  obtain ⟨hx, hb, hml, hret, hown, hts, hlocks, hA, hK⟩ := E1
  intro H locs ls hP hD hS hl
  unfold fX8_bits at hr
  refine lv_iconst (v := 0) hx hb dX8_bits_0 (by decide) ?_
  refine lv_istore_n (lv' := [(1, .int 0), (0, .int v0)]) hx hb dX8_bits_1 rfl hl (by decide) rfl (fun ls hl => ?_)
  refine lv_iconst (v := 0) hx hb dX8_bits_2 (by decide) ?_
  refine lv_istore_n (lv' := [(2, .int 0), (1, .int 0), (0, .int v0)]) hx hb dX8_bits_3 rfl hl (by decide) rfl (fun ls hl => ?_)
  exact kX8_bits_4 E0 n r_ret n v0 0 0 hr H locs ls hP hD hS (lv_sub hl [2, 1, 0] rfl)
set_option maxHeartbeats 4000000 in
set_option maxRecDepth 100000 in
theorem mX8_bits (l : Launch) (D : va_G) (c : Nat → ClassId) (sz : Nat) (v0 : Int32) (n : Nat) (r_ret : Int32) (h : fX8_bits n v0 = some (r_ret)) : Met l yX8_bits wsX8_bits ({ frames := 0, cells := 0, slots := 0, locals := 0 } : Room) (xPc D (xT c) sz [.int v0] (wX8_bits c) (fun _ => True)) (xQi D (xT c) (va_A (wX8_bits c) sz) r_ret (wX8_bits c)) 0 0 (va_A (wX8_bits c) sz) := by
  refine Met.ofW (cc := cX8_bits) (maxL := 3) (ret := (some .int)) (by decide) rfl ?_
  intro p e s m args below meth cd s₁ B hml hv
  obtain ⟨rfl, hsz, hP, hK, hD0, hV⟩ := hv
  subst hsz
  have hl := lv_entry [.int v0] (n := 3) (Nat.le_of_ble_eq_true rfl)
  rw [lg_entry_eq]
  exact kX8_bits_0 (A := va_A (wX8_bits c) s.heap.size) ⟨B.exec, B.bytes, hml, B.returns, findClass_of_methodNamed B.named, atoms_spec (ws := wsX8_bits) B.pre, B.notSynchronized, fun q h => Or.inr h, hK⟩ n r_ret v0 h s.heap [] _ hP hD0.self va_S.rf hl

abbrev wX8_write (c : Nat → ClassId) (a_this : Nat) (a_row : Nat) (a_isKept : Nat) (a_text : Nat) (a_seenMember : Nat) (a_seenMinutes : Nat) (a_seenFact : Nat) (a_seenKnew : Nat) (a_sizes : Nat) (a_sorts : Nat) (a_places : Nat) (a_belows : Nat) (a_clubWord : Nat) (a_factWord : Nat) (a_memberWord : Nat) (a_commonWord : Nat) (a_stripedWord : Nat) (a_greedyWord : Nat) (a_bishopWord : Nat) (a_muffWord : Nat) (a_onWord : Nat) (a_line : Nat) (a_bestLine : Nat) (a_moved : Nat) (a_movedBelow : Nat) (x_undos : Int32) (x_seenMany : Int32) (x_first : Int32) (x_behind : Int32) (x_readFacts : Int32) (x_readMembers : Int32) (x_readLeeches : Int32) (x_clauses : Int32) (x_doing : Int32) (x_hasNow : Int32) (x_knowsNow : Int32) (x_isOff : Int32) (x_text : Nat → Int32) (x_length : Int32) : va_W := [(a_this, .inr (8, [.ref a_row, .int x_undos, .ref a_isKept, .ref a_text, .int x_length, .int x_seenMany, .ref a_seenMember, .ref a_seenMinutes, .ref a_seenFact, .ref a_seenKnew, .ref a_sizes, .ref a_sorts, .ref a_places, .ref a_belows, .int x_first, .int x_behind, .int x_readFacts, .int x_readMembers, .int x_readLeeches, .int x_clauses, .int x_doing, .ref a_clubWord, .ref a_factWord, .ref a_memberWord, .ref a_commonWord, .ref a_stripedWord, .ref a_greedyWord, .ref a_bishopWord, .ref a_muffWord, .ref a_onWord, .int x_hasNow, .int x_knowsNow, .int x_isOff, .ref a_line, .ref a_bestLine, .ref a_moved, .ref a_movedBelow])), (a_text, .inl (c 0, 200, .inl x_text))]
def GX8_write (p : Program) (l : Launch) (e : Env) (s : State) (m : MethodId) (args : Array Value) (below : List Frame) (meth : Method) (cd : Code) (D : va_G) (c : Nat → ClassId) (A : Nat → Prop) (a_this : Nat) (a_row : Nat) (a_isKept : Nat) (a_text : Nat) (a_seenMember : Nat) (a_seenMinutes : Nat) (a_seenFact : Nat) (a_seenKnew : Nat) (a_sizes : Nat) (a_sorts : Nat) (a_places : Nat) (a_belows : Nat) (a_clubWord : Nat) (a_factWord : Nat) (a_memberWord : Nat) (a_commonWord : Nat) (a_stripedWord : Nat) (a_greedyWord : Nat) (a_bishopWord : Nat) (a_muffWord : Nat) (a_onWord : Nat) (a_line : Nat) (a_bestLine : Nat) (a_moved : Nat) (a_movedBelow : Nat) (x_undos : Int32) (x_seenMany : Int32) (x_first : Int32) (x_behind : Int32) (x_readFacts : Int32) (x_readMembers : Int32) (x_readLeeches : Int32) (x_clauses : Int32) (x_doing : Int32) (x_hasNow : Int32) (x_knowsNow : Int32) (x_isOff : Int32) (r_ret : Int32) (rm_text : Nat → Int32) (rm_length : Int32) (pc : Nat) (st : List Value) (loc : List (Nat × Value)) (x_text : Nat → Int32) (x_length : Int32) : Prop :=
  ∀ (H : Heap) (locs : List Loc) (ls : Array Slot), va_P D vwCl (wX8_write c a_this a_row a_isKept a_text a_seenMember a_seenMinutes a_seenFact a_seenKnew a_sizes a_sorts a_places a_belows a_clubWord a_factWord a_memberWord a_commonWord a_stripedWord a_greedyWord a_bishopWord a_muffWord a_onWord a_line a_bestLine a_moved a_movedBelow x_undos x_seenMany x_first x_behind x_readFacts x_readMembers x_readLeeches x_clauses x_doing x_hasNow x_knowsNow x_isOff x_text x_length) H → va_D A (wX8_write c a_this a_row a_isKept a_text a_seenMember a_seenMinutes a_seenFact a_seenKnew a_sizes a_sorts a_places a_belows a_clubWord a_factWord a_memberWord a_commonWord a_stripedWord a_greedyWord a_bishopWord a_muffWord a_onWord a_line a_bestLine a_moved a_movedBelow x_undos x_seenMany x_first x_behind x_readFacts x_readMembers x_readLeeches x_clauses x_doing x_hasNow x_knowsNow x_isOff x_text x_length) → va_S A s.heap H locs → lv_has ls 2 loc → W p l e ({ frames := 1, cells := 0, slots := 0, locals := 25 } : Room) s m args below meth cd H locs 0 0 (MQ below (xQi D (xT c) A r_ret (wX8_write c a_this a_row a_isKept a_text a_seenMember a_seenMinutes a_seenFact a_seenKnew a_sizes a_sorts a_places a_belows a_clubWord a_factWord a_memberWord a_commonWord a_stripedWord a_greedyWord a_bishopWord a_muffWord a_onWord a_line a_bestLine a_moved a_movedBelow x_undos x_seenMany x_first x_behind x_readFacts x_readMembers x_readLeeches x_clauses x_doing x_hasNow x_knowsNow x_isOff rm_text rm_length)) args s 0 0 A) (F0 m pc ls st)
theorem lkX8_write_J84 : Cond.constantLong RX8 84 255 ∈ wsX8_write := by decide +kernel
theorem lkX8_write_f17 : Cond.fieldLink RX8 17 "LeechClubModel" "text" "[I" ∈ wsX8_write := by decide +kernel
theorem lkX8_write_f90 : Cond.fieldLink RX8 90 "LeechClubModel" "length" "I" ∈ wsX8_write := by decide +kernel
theorem inX8_write_X8 : ∀ w ∈ wsX80, w ∈ wsX8_write := by decide +kernel
set_option maxHeartbeats 4000000 in
set_option maxRecDepth 100000 in
theorem kX8_write_0 {p : Program} {l : Launch} {e : Env} {s : State} {m : MethodId} {args : Array Value} {below : List Frame} {meth : Method} {cd : Code} {D : va_G} {c : Nat → ClassId} {A : Nat → Prop} (E0 : xE p s m args meth cd D (xT c) A RX8 cX8_write 2 (some .int) wsX8_write) (a_this : Nat) (a_row : Nat) (a_isKept : Nat) (a_text : Nat) (a_seenMember : Nat) (a_seenMinutes : Nat) (a_seenFact : Nat) (a_seenKnew : Nat) (a_sizes : Nat) (a_sorts : Nat) (a_places : Nat) (a_belows : Nat) (a_clubWord : Nat) (a_factWord : Nat) (a_memberWord : Nat) (a_commonWord : Nat) (a_stripedWord : Nat) (a_greedyWord : Nat) (a_bishopWord : Nat) (a_muffWord : Nat) (a_onWord : Nat) (a_line : Nat) (a_bestLine : Nat) (a_moved : Nat) (a_movedBelow : Nat) (x_undos : Int32) (x_seenMany : Int32) (x_first : Int32) (x_behind : Int32) (x_readFacts : Int32) (x_readMembers : Int32) (x_readLeeches : Int32) (x_clauses : Int32) (x_doing : Int32) (x_hasNow : Int32) (x_knowsNow : Int32) (x_isOff : Int32) (n : Nat) (r_ret : Int32) (rm_text : Nat → Int32) (rm_length : Int32) (x_text : Nat → Int32) (x_length : Int32) (v1 : Int32) (hr : fX8_write n x_text x_length v1 = some (r_ret, rm_text, rm_length)) : GX8_write p l e s m args below meth cd D c A a_this a_row a_isKept a_text a_seenMember a_seenMinutes a_seenFact a_seenKnew a_sizes a_sorts a_places a_belows a_clubWord a_factWord a_memberWord a_commonWord a_stripedWord a_greedyWord a_bishopWord a_muffWord a_onWord a_line a_bestLine a_moved a_movedBelow x_undos x_seenMany x_first x_behind x_readFacts x_readMembers x_readLeeches x_clauses x_doing x_hasNow x_knowsNow x_isOff r_ret rm_text rm_length 0 [] [(0, .ref a_this), (1, .int v1)] x_text x_length := by
  have E1 := E0
  obtain ⟨hx, hb, hml, hret, hown, hts, hlocks, hA, hK⟩ := E1
  intro H locs ls hP hD hS hl
  unfold fX8_write at hr
  refine lv_iload_n hx hb dX8_write_0 rfl (lv_at hl 1 rfl) ?_
  refine lv_i2l hx hb dX8_write_1 rfl ?_
  refine lv_lconst (v := 0) hx hb dX8_write_2 (by decide) ?_
  refine lv_ldc2 hx hb hown (hts _ lkX8_write_J84) dX8_write_3 ?_
  obtain ⟨q1_0, hc1, hr⟩ := x_bind hr
  refine x_runi (wr := [(a_this, .inr (8, [.ref a_row, .int x_undos, .ref a_isKept, .ref a_text, .int x_length, .int x_seenMany, .ref a_seenMember, .ref a_seenMinutes, .ref a_seenFact, .ref a_seenKnew, .ref a_sizes, .ref a_sorts, .ref a_places, .ref a_belows, .int x_first, .int x_behind, .int x_readFacts, .int x_readMembers, .int x_readLeeches, .int x_clauses, .int x_doing, .ref a_clubWord, .ref a_factWord, .ref a_memberWord, .ref a_commonWord, .ref a_stripedWord, .ref a_greedyWord, .ref a_bishopWord, .ref a_muffWord, .ref a_onWord, .int x_hasNow, .int x_knowsNow, .int x_isOff, .ref a_line, .ref a_bestLine, .ref a_moved, .ref a_movedBelow])), (a_text, .inl (c 0, 200, .inl x_text))]) (wf := [(a_this, .inr (8, [.ref a_row, .int x_undos, .ref a_isKept, .ref a_text, .int x_length, .int x_seenMany, .ref a_seenMember, .ref a_seenMinutes, .ref a_seenFact, .ref a_seenKnew, .ref a_sizes, .ref a_sorts, .ref a_places, .ref a_belows, .int x_first, .int x_behind, .int x_readFacts, .int x_readMembers, .int x_readLeeches, .int x_clauses, .int x_doing, .ref a_clubWord, .ref a_factWord, .ref a_memberWord, .ref a_commonWord, .ref a_stripedWord, .ref a_greedyWord, .ref a_bishopWord, .ref a_muffWord, .ref a_onWord, .int x_hasNow, .int x_knowsNow, .int x_isOff, .ref a_line, .ref a_bestLine, .ref a_moved, .ref a_movedBelow])), (a_text, .inl (c 0, 200, .inl x_text))]) (x_goS (As := [.long v1.toInt64, .long 0, .long 255]) (rest := []) ⟨hx, hb, hml, hown, hts⟩ (mX8_in l D c H.size v1.toInt64 0 255 n _ hc1) (va_cwS 3 hts gX8_write_X8_in rfl rfl rfl (by decide +kernel) ⟨Nat.le_of_ble_eq_true rfl, Nat.le_of_ble_eq_true rfl⟩) xB_t hP hD hK [] rfl (by decide) (fun _ _ _ => trivial) rfl hl.1 rfl (Nat.le_of_ble_eq_true rfl) dX8_write_6) hP hD hS hA [] [0, 1] [0, 1] rfl rfl rfl ⟨by decide, by decide, by decide⟩ (fun H locs hP hD hS => ?_)
  refine lv_if_ne (tgt := 15) hx hb dX8_write_9 (by decide) (fun c_2 => ?_) (fun c_2 => ?_)
  · have hr := x_iff hr c_2
    refine lv_aload_n hx hb dX8_write_15 rfl (lv_at hl 0 rfl) ?_
    refine va_get (D := D) (ci := 8) (v := .int x_length) (C := RX8) (T := TX8) (N := 37) hx hb hts inX8_write_X8 hown hK hP 0 rfl rfl 4 (by decide) (hts _ lkX8_write_f90) (fun _ h9 => h9) rfl dX8_write_16 ?_
    refine lv_sipush (v := 200) hx hb dX8_write_19 (by decide) ?_
    refine lv_icmp_ne (tgt := 28) hx hb dX8_write_22 (by decide) (fun c_3 => ?_) (fun c_3 => ?_)
    · have hr := x_iff hr c_3
      refine lv_aload_n hx hb dX8_write_28 rfl (lv_at hl 0 rfl) ?_
      refine va_get (D := D) (ci := 8) (v := .ref a_text) (C := RX8) (T := TX8) (N := 37) hx hb hts inX8_write_X8 hown hK hP 0 rfl rfl 3 (by decide) (hts _ lkX8_write_f17) (fun _ h9 => h9) rfl dX8_write_29 ?_
      refine lv_aload_n hx hb dX8_write_32 rfl (lv_at hl 0 rfl) ?_
      refine va_get (D := D) (ci := 8) (v := .int x_length) (C := RX8) (T := TX8) (N := 37) hx hb hts inX8_write_X8 hown hK hP 0 rfl rfl 4 (by decide) (hts _ lkX8_write_f90) (fun _ h9 => h9) rfl dX8_write_33 ?_
      refine lv_iload_n hx hb dX8_write_36 rfl (lv_at hl 1 rfl) ?_
      obtain ⟨b_4, hr⟩ := x_chk hr
      refine va_iast hx hb hK hP hD hS 1 0 rfl rfl b_4 dX8_write_37 (fun H locs hP hD hS => ?_)
      have hP : va_P D vwCl [(a_this, .inr (8, [.ref a_row, .int x_undos, .ref a_isKept, .ref a_text, .int x_length, .int x_seenMany, .ref a_seenMember, .ref a_seenMinutes, .ref a_seenFact, .ref a_seenKnew, .ref a_sizes, .ref a_sorts, .ref a_places, .ref a_belows, .int x_first, .int x_behind, .int x_readFacts, .int x_readMembers, .int x_readLeeches, .int x_clauses, .int x_doing, .ref a_clubWord, .ref a_factWord, .ref a_memberWord, .ref a_commonWord, .ref a_stripedWord, .ref a_greedyWord, .ref a_bishopWord, .ref a_muffWord, .ref a_onWord, .int x_hasNow, .int x_knowsNow, .int x_isOff, .ref a_line, .ref a_bestLine, .ref a_moved, .ref a_movedBelow])), (a_text, .inl (c 0, 200, .inl (upd x_text x_length.toNatClampNeg v1)))] H := hP
      have hD : va_D A [(a_this, .inr (8, [.ref a_row, .int x_undos, .ref a_isKept, .ref a_text, .int x_length, .int x_seenMany, .ref a_seenMember, .ref a_seenMinutes, .ref a_seenFact, .ref a_seenKnew, .ref a_sizes, .ref a_sorts, .ref a_places, .ref a_belows, .int x_first, .int x_behind, .int x_readFacts, .int x_readMembers, .int x_readLeeches, .int x_clauses, .int x_doing, .ref a_clubWord, .ref a_factWord, .ref a_memberWord, .ref a_commonWord, .ref a_stripedWord, .ref a_greedyWord, .ref a_bishopWord, .ref a_muffWord, .ref a_onWord, .int x_hasNow, .int x_knowsNow, .int x_isOff, .ref a_line, .ref a_bestLine, .ref a_moved, .ref a_movedBelow])), (a_text, .inl (c 0, 200, .inl (upd x_text x_length.toNatClampNeg v1)))] := hD
      refine lv_aload_n hx hb dX8_write_38 rfl (lv_at hl 0 rfl) ?_
      refine lv_dup hx hb dX8_write_39 rfl ?_
      refine va_get (D := D) (ci := 8) (v := .int x_length) (C := RX8) (T := TX8) (N := 37) hx hb hts inX8_write_X8 hown hK hP 0 rfl rfl 4 (by decide) (hts _ lkX8_write_f90) (fun _ h9 => h9) rfl dX8_write_40 ?_
      refine lv_iconst (v := 1) hx hb dX8_write_43 (by decide) ?_
      refine lv_iadd hx hb dX8_write_44 ?_
      refine va_put (D := D) (ci := 8) (v := .int (x_length + 1)) (ty := .int) (C := RX8) (T := TX8) (N := 37) hx hb hts inX8_write_X8 tyX8 tyX8_ok nmX8 hown hK hP hD hS 0 rfl rfl 4 (by decide) (hts _ lkX8_write_f90) (fun _ h9 => h9) rfl (by decide +kernel) rfl rfl (Nat.le_of_ble_eq_true rfl) dX8_write_45 (fun H locs hP hD hS => ?_)
      have hP : va_P D vwCl [(a_this, .inr (8, [.ref a_row, .int x_undos, .ref a_isKept, .ref a_text, .int (x_length + 1), .int x_seenMany, .ref a_seenMember, .ref a_seenMinutes, .ref a_seenFact, .ref a_seenKnew, .ref a_sizes, .ref a_sorts, .ref a_places, .ref a_belows, .int x_first, .int x_behind, .int x_readFacts, .int x_readMembers, .int x_readLeeches, .int x_clauses, .int x_doing, .ref a_clubWord, .ref a_factWord, .ref a_memberWord, .ref a_commonWord, .ref a_stripedWord, .ref a_greedyWord, .ref a_bishopWord, .ref a_muffWord, .ref a_onWord, .int x_hasNow, .int x_knowsNow, .int x_isOff, .ref a_line, .ref a_bestLine, .ref a_moved, .ref a_movedBelow])), (a_text, .inl (c 0, 200, .inl (upd x_text x_length.toNatClampNeg v1)))] H := hP
      have hD : va_D A [(a_this, .inr (8, [.ref a_row, .int x_undos, .ref a_isKept, .ref a_text, .int (x_length + 1), .int x_seenMany, .ref a_seenMember, .ref a_seenMinutes, .ref a_seenFact, .ref a_seenKnew, .ref a_sizes, .ref a_sorts, .ref a_places, .ref a_belows, .int x_first, .int x_behind, .int x_readFacts, .int x_readMembers, .int x_readLeeches, .int x_clauses, .int x_doing, .ref a_clubWord, .ref a_factWord, .ref a_memberWord, .ref a_commonWord, .ref a_stripedWord, .ref a_greedyWord, .ref a_bishopWord, .ref a_muffWord, .ref a_onWord, .int x_hasNow, .int x_knowsNow, .int x_isOff, .ref a_line, .ref a_bestLine, .ref a_moved, .ref a_movedBelow])), (a_text, .inl (c 0, 200, .inl (upd x_text x_length.toNatClampNeg v1)))] := hD
      refine lv_aload_n hx hb dX8_write_48 rfl (lv_at hl 0 rfl) ?_
      refine va_get (D := D) (ci := 8) (v := .int (x_length + 1)) (C := RX8) (T := TX8) (N := 37) hx hb hts inX8_write_X8 hown hK hP 0 rfl rfl 4 (by decide) (hts _ lkX8_write_f90) (fun _ h9 => h9) rfl dX8_write_49 ?_
      have g0 := x_some hr
      have e0 := x_p1 g0
      have g1 := x_p2 g0
      have e1 := x_p1 g1
      have e2 := x_p2 g1
      subst e0
      subst e1
      subst e2
      exact x_reti hx hb hret hlocks hP hD hK hS dX8_write_52
    · have hr := x_ift hr c_3
      refine lv_bipush (v := (-5)) hx hb dX8_write_25 (by decide) ?_
      have g0 := x_some hr
      have e0 := x_p1 g0
      have g1 := x_p2 g0
      have e1 := x_p1 g1
      have e2 := x_p2 g1
      subst e0
      subst e1
      subst e2
      exact x_reti hx hb hret hlocks hP hD hK hS dX8_write_27
  · have hr := x_ift hr c_2
    refine lv_bipush (v := (-3)) hx hb dX8_write_12 (by decide) ?_
    have g0 := x_some hr
    have e0 := x_p1 g0
    have g1 := x_p2 g0
    have e1 := x_p1 g1
    have e2 := x_p2 g1
    subst e0
    subst e1
    subst e2
    exact x_reti hx hb hret hlocks hP hD hK hS dX8_write_14
set_option maxHeartbeats 4000000 in
set_option maxRecDepth 100000 in
theorem mX8_write (l : Launch) (D : va_G) (c : Nat → ClassId) (a_this : Nat) (a_row : Nat) (a_isKept : Nat) (a_text : Nat) (a_seenMember : Nat) (a_seenMinutes : Nat) (a_seenFact : Nat) (a_seenKnew : Nat) (a_sizes : Nat) (a_sorts : Nat) (a_places : Nat) (a_belows : Nat) (a_clubWord : Nat) (a_factWord : Nat) (a_memberWord : Nat) (a_commonWord : Nat) (a_stripedWord : Nat) (a_greedyWord : Nat) (a_bishopWord : Nat) (a_muffWord : Nat) (a_onWord : Nat) (a_line : Nat) (a_bestLine : Nat) (a_moved : Nat) (a_movedBelow : Nat) (sz : Nat) (x_undos : Int32) (x_seenMany : Int32) (x_first : Int32) (x_behind : Int32) (x_readFacts : Int32) (x_readMembers : Int32) (x_readLeeches : Int32) (x_clauses : Int32) (x_doing : Int32) (x_hasNow : Int32) (x_knowsNow : Int32) (x_isOff : Int32) (x_text : Nat → Int32) (x_length : Int32) (v1 : Int32) (n : Nat) (r_ret : Int32) (rm_text : Nat → Int32) (rm_length : Int32) (h : fX8_write n x_text x_length v1 = some (r_ret, rm_text, rm_length)) : Met l yX8_write wsX8_write ({ frames := 1, cells := 0, slots := 0, locals := 25 } : Room) (xPc D (xT c) sz [.ref a_this, .int v1] (wX8_write c a_this a_row a_isKept a_text a_seenMember a_seenMinutes a_seenFact a_seenKnew a_sizes a_sorts a_places a_belows a_clubWord a_factWord a_memberWord a_commonWord a_stripedWord a_greedyWord a_bishopWord a_muffWord a_onWord a_line a_bestLine a_moved a_movedBelow x_undos x_seenMany x_first x_behind x_readFacts x_readMembers x_readLeeches x_clauses x_doing x_hasNow x_knowsNow x_isOff x_text x_length) (fun _ => True)) (xQi D (xT c) (va_A (wX8_write c a_this a_row a_isKept a_text a_seenMember a_seenMinutes a_seenFact a_seenKnew a_sizes a_sorts a_places a_belows a_clubWord a_factWord a_memberWord a_commonWord a_stripedWord a_greedyWord a_bishopWord a_muffWord a_onWord a_line a_bestLine a_moved a_movedBelow x_undos x_seenMany x_first x_behind x_readFacts x_readMembers x_readLeeches x_clauses x_doing x_hasNow x_knowsNow x_isOff x_text x_length) sz) r_ret (wX8_write c a_this a_row a_isKept a_text a_seenMember a_seenMinutes a_seenFact a_seenKnew a_sizes a_sorts a_places a_belows a_clubWord a_factWord a_memberWord a_commonWord a_stripedWord a_greedyWord a_bishopWord a_muffWord a_onWord a_line a_bestLine a_moved a_movedBelow x_undos x_seenMany x_first x_behind x_readFacts x_readMembers x_readLeeches x_clauses x_doing x_hasNow x_knowsNow x_isOff rm_text rm_length)) 0 0 (va_A (wX8_write c a_this a_row a_isKept a_text a_seenMember a_seenMinutes a_seenFact a_seenKnew a_sizes a_sorts a_places a_belows a_clubWord a_factWord a_memberWord a_commonWord a_stripedWord a_greedyWord a_bishopWord a_muffWord a_onWord a_line a_bestLine a_moved a_movedBelow x_undos x_seenMany x_first x_behind x_readFacts x_readMembers x_readLeeches x_clauses x_doing x_hasNow x_knowsNow x_isOff x_text x_length) sz) := by
  refine Met.ofW (cc := cX8_write) (maxL := 2) (ret := (some .int)) (by decide) rfl ?_
  intro p e s m args below meth cd s₁ B hml hv
  obtain ⟨rfl, hsz, hP, hK, hD0, hV⟩ := hv
  subst hsz
  have hl := lv_entry [.ref a_this, .int v1] (n := 2) (Nat.le_of_ble_eq_true rfl)
  rw [lg_entry_eq]
  exact kX8_write_0 (A := va_A (wX8_write c a_this a_row a_isKept a_text a_seenMember a_seenMinutes a_seenFact a_seenKnew a_sizes a_sorts a_places a_belows a_clubWord a_factWord a_memberWord a_commonWord a_stripedWord a_greedyWord a_bishopWord a_muffWord a_onWord a_line a_bestLine a_moved a_movedBelow x_undos x_seenMany x_first x_behind x_readFacts x_readMembers x_readLeeches x_clauses x_doing x_hasNow x_knowsNow x_isOff x_text x_length) s.heap.size) ⟨B.exec, B.bytes, hml, B.returns, findClass_of_methodNamed B.named, atoms_spec (ws := wsX8_write) B.pre, B.notSynchronized, fun q h => Or.inr h, hK⟩ a_this a_row a_isKept a_text a_seenMember a_seenMinutes a_seenFact a_seenKnew a_sizes a_sorts a_places a_belows a_clubWord a_factWord a_memberWord a_commonWord a_stripedWord a_greedyWord a_bishopWord a_muffWord a_onWord a_line a_bestLine a_moved a_movedBelow x_undos x_seenMany x_first x_behind x_readFacts x_readMembers x_readLeeches x_clauses x_doing x_hasNow x_knowsNow x_isOff n r_ret rm_text rm_length x_text x_length v1 h s.heap [] _ hP hD0.self va_S.rf hl

abbrev wX8_erase (c : Nat → ClassId) (a_this : Nat) (a_row : Nat) (a_isKept : Nat) (a_text : Nat) (a_seenMember : Nat) (a_seenMinutes : Nat) (a_seenFact : Nat) (a_seenKnew : Nat) (a_sizes : Nat) (a_sorts : Nat) (a_places : Nat) (a_belows : Nat) (a_clubWord : Nat) (a_factWord : Nat) (a_memberWord : Nat) (a_commonWord : Nat) (a_stripedWord : Nat) (a_greedyWord : Nat) (a_bishopWord : Nat) (a_muffWord : Nat) (a_onWord : Nat) (a_line : Nat) (a_bestLine : Nat) (a_moved : Nat) (a_movedBelow : Nat) (x_undos : Int32) (x_seenMany : Int32) (x_first : Int32) (x_behind : Int32) (x_readFacts : Int32) (x_readMembers : Int32) (x_readLeeches : Int32) (x_clauses : Int32) (x_doing : Int32) (x_hasNow : Int32) (x_knowsNow : Int32) (x_isOff : Int32) (x_length : Int32) : va_W := [(a_this, .inr (8, [.ref a_row, .int x_undos, .ref a_isKept, .ref a_text, .int x_length, .int x_seenMany, .ref a_seenMember, .ref a_seenMinutes, .ref a_seenFact, .ref a_seenKnew, .ref a_sizes, .ref a_sorts, .ref a_places, .ref a_belows, .int x_first, .int x_behind, .int x_readFacts, .int x_readMembers, .int x_readLeeches, .int x_clauses, .int x_doing, .ref a_clubWord, .ref a_factWord, .ref a_memberWord, .ref a_commonWord, .ref a_stripedWord, .ref a_greedyWord, .ref a_bishopWord, .ref a_muffWord, .ref a_onWord, .int x_hasNow, .int x_knowsNow, .int x_isOff, .ref a_line, .ref a_bestLine, .ref a_moved, .ref a_movedBelow]))]
def GX8_erase (p : Program) (l : Launch) (e : Env) (s : State) (m : MethodId) (args : Array Value) (below : List Frame) (meth : Method) (cd : Code) (D : va_G) (c : Nat → ClassId) (A : Nat → Prop) (a_this : Nat) (a_row : Nat) (a_isKept : Nat) (a_text : Nat) (a_seenMember : Nat) (a_seenMinutes : Nat) (a_seenFact : Nat) (a_seenKnew : Nat) (a_sizes : Nat) (a_sorts : Nat) (a_places : Nat) (a_belows : Nat) (a_clubWord : Nat) (a_factWord : Nat) (a_memberWord : Nat) (a_commonWord : Nat) (a_stripedWord : Nat) (a_greedyWord : Nat) (a_bishopWord : Nat) (a_muffWord : Nat) (a_onWord : Nat) (a_line : Nat) (a_bestLine : Nat) (a_moved : Nat) (a_movedBelow : Nat) (x_undos : Int32) (x_seenMany : Int32) (x_first : Int32) (x_behind : Int32) (x_readFacts : Int32) (x_readMembers : Int32) (x_readLeeches : Int32) (x_clauses : Int32) (x_doing : Int32) (x_hasNow : Int32) (x_knowsNow : Int32) (x_isOff : Int32) (r_ret : Int32) (rm_length : Int32) (pc : Nat) (st : List Value) (loc : List (Nat × Value)) (x_length : Int32) : Prop :=
  ∀ (H : Heap) (locs : List Loc) (ls : Array Slot), va_P D vwCl (wX8_erase c a_this a_row a_isKept a_text a_seenMember a_seenMinutes a_seenFact a_seenKnew a_sizes a_sorts a_places a_belows a_clubWord a_factWord a_memberWord a_commonWord a_stripedWord a_greedyWord a_bishopWord a_muffWord a_onWord a_line a_bestLine a_moved a_movedBelow x_undos x_seenMany x_first x_behind x_readFacts x_readMembers x_readLeeches x_clauses x_doing x_hasNow x_knowsNow x_isOff x_length) H → va_D A (wX8_erase c a_this a_row a_isKept a_text a_seenMember a_seenMinutes a_seenFact a_seenKnew a_sizes a_sorts a_places a_belows a_clubWord a_factWord a_memberWord a_commonWord a_stripedWord a_greedyWord a_bishopWord a_muffWord a_onWord a_line a_bestLine a_moved a_movedBelow x_undos x_seenMany x_first x_behind x_readFacts x_readMembers x_readLeeches x_clauses x_doing x_hasNow x_knowsNow x_isOff x_length) → va_S A s.heap H locs → lv_has ls 2 loc → W p l e ({ frames := 0, cells := 0, slots := 0, locals := 0 } : Room) s m args below meth cd H locs 0 0 (MQ below (xQi D (xT c) A r_ret (wX8_erase c a_this a_row a_isKept a_text a_seenMember a_seenMinutes a_seenFact a_seenKnew a_sizes a_sorts a_places a_belows a_clubWord a_factWord a_memberWord a_commonWord a_stripedWord a_greedyWord a_bishopWord a_muffWord a_onWord a_line a_bestLine a_moved a_movedBelow x_undos x_seenMany x_first x_behind x_readFacts x_readMembers x_readLeeches x_clauses x_doing x_hasNow x_knowsNow x_isOff rm_length)) args s 0 0 A) (F0 m pc ls st)
theorem lkX8_erase_f90 : Cond.fieldLink RX8 90 "LeechClubModel" "length" "I" ∈ wsX8_erase := by decide +kernel
theorem inX8_erase_X8 : ∀ w ∈ wsX80, w ∈ wsX8_erase := by decide +kernel
set_option maxHeartbeats 4000000 in
set_option maxRecDepth 100000 in
theorem kX8_erase_0 {p : Program} {l : Launch} {e : Env} {s : State} {m : MethodId} {args : Array Value} {below : List Frame} {meth : Method} {cd : Code} {D : va_G} {c : Nat → ClassId} {A : Nat → Prop} (E0 : xE p s m args meth cd D (xT c) A RX8 cX8_erase 2 (some .int) wsX8_erase) (a_this : Nat) (a_row : Nat) (a_isKept : Nat) (a_text : Nat) (a_seenMember : Nat) (a_seenMinutes : Nat) (a_seenFact : Nat) (a_seenKnew : Nat) (a_sizes : Nat) (a_sorts : Nat) (a_places : Nat) (a_belows : Nat) (a_clubWord : Nat) (a_factWord : Nat) (a_memberWord : Nat) (a_commonWord : Nat) (a_stripedWord : Nat) (a_greedyWord : Nat) (a_bishopWord : Nat) (a_muffWord : Nat) (a_onWord : Nat) (a_line : Nat) (a_bestLine : Nat) (a_moved : Nat) (a_movedBelow : Nat) (x_undos : Int32) (x_seenMany : Int32) (x_first : Int32) (x_behind : Int32) (x_readFacts : Int32) (x_readMembers : Int32) (x_readLeeches : Int32) (x_clauses : Int32) (x_doing : Int32) (x_hasNow : Int32) (x_knowsNow : Int32) (x_isOff : Int32) (n : Nat) (r_ret : Int32) (rm_length : Int32) (x_length : Int32) (hr : fX8_erase n x_length = some (r_ret, rm_length)) : GX8_erase p l e s m args below meth cd D c A a_this a_row a_isKept a_text a_seenMember a_seenMinutes a_seenFact a_seenKnew a_sizes a_sorts a_places a_belows a_clubWord a_factWord a_memberWord a_commonWord a_stripedWord a_greedyWord a_bishopWord a_muffWord a_onWord a_line a_bestLine a_moved a_movedBelow x_undos x_seenMany x_first x_behind x_readFacts x_readMembers x_readLeeches x_clauses x_doing x_hasNow x_knowsNow x_isOff r_ret rm_length 0 [] [(0, .ref a_this)] x_length := by
  have E1 := E0
  obtain ⟨hx, hb, hml, hret, hown, hts, hlocks, hA, hK⟩ := E1
  intro H locs ls hP hD hS hl
  unfold fX8_erase at hr
  refine lv_aload_n hx hb dX8_erase_0 rfl (lv_at hl 0 rfl) ?_
  refine va_get (D := D) (ci := 8) (v := .int x_length) (C := RX8) (T := TX8) (N := 37) hx hb hts inX8_erase_X8 hown hK hP 0 rfl rfl 4 (by decide) (hts _ lkX8_erase_f90) (fun _ h9 => h9) rfl dX8_erase_1 ?_
  refine lv_istore_n (lv' := [(1, .int x_length), (0, .ref a_this)]) hx hb dX8_erase_4 rfl hl (by decide) rfl (fun ls hl => ?_)
  refine lv_aload_n hx hb dX8_erase_5 rfl (lv_at hl 1 rfl) ?_
  refine lv_iconst (v := 0) hx hb dX8_erase_6 (by decide) ?_
  refine va_put (D := D) (ci := 8) (v := .int 0) (ty := .int) (C := RX8) (T := TX8) (N := 37) hx hb hts inX8_erase_X8 tyX8 tyX8_ok nmX8 hown hK hP hD hS 0 rfl rfl 4 (by decide) (hts _ lkX8_erase_f90) (fun _ h9 => h9) rfl (by decide +kernel) rfl rfl (Nat.le_of_ble_eq_true rfl) dX8_erase_7 (fun H locs hP hD hS => ?_)
  have hP : va_P D vwCl [(a_this, .inr (8, [.ref a_row, .int x_undos, .ref a_isKept, .ref a_text, .int 0, .int x_seenMany, .ref a_seenMember, .ref a_seenMinutes, .ref a_seenFact, .ref a_seenKnew, .ref a_sizes, .ref a_sorts, .ref a_places, .ref a_belows, .int x_first, .int x_behind, .int x_readFacts, .int x_readMembers, .int x_readLeeches, .int x_clauses, .int x_doing, .ref a_clubWord, .ref a_factWord, .ref a_memberWord, .ref a_commonWord, .ref a_stripedWord, .ref a_greedyWord, .ref a_bishopWord, .ref a_muffWord, .ref a_onWord, .int x_hasNow, .int x_knowsNow, .int x_isOff, .ref a_line, .ref a_bestLine, .ref a_moved, .ref a_movedBelow]))] H := hP
  have hD : va_D A [(a_this, .inr (8, [.ref a_row, .int x_undos, .ref a_isKept, .ref a_text, .int 0, .int x_seenMany, .ref a_seenMember, .ref a_seenMinutes, .ref a_seenFact, .ref a_seenKnew, .ref a_sizes, .ref a_sorts, .ref a_places, .ref a_belows, .int x_first, .int x_behind, .int x_readFacts, .int x_readMembers, .int x_readLeeches, .int x_clauses, .int x_doing, .ref a_clubWord, .ref a_factWord, .ref a_memberWord, .ref a_commonWord, .ref a_stripedWord, .ref a_greedyWord, .ref a_bishopWord, .ref a_muffWord, .ref a_onWord, .int x_hasNow, .int x_knowsNow, .int x_isOff, .ref a_line, .ref a_bestLine, .ref a_moved, .ref a_movedBelow]))] := hD
  refine lv_iload_n hx hb dX8_erase_10 rfl (lv_at hl 0 rfl) ?_
  have g0 := x_some hr
  have e0 := x_p1 g0
  have e1 := x_p2 g0
  subst e0
  subst e1
  exact x_reti hx hb hret hlocks hP hD hK hS dX8_erase_11
set_option maxHeartbeats 4000000 in
set_option maxRecDepth 100000 in
theorem mX8_erase (l : Launch) (D : va_G) (c : Nat → ClassId) (a_this : Nat) (a_row : Nat) (a_isKept : Nat) (a_text : Nat) (a_seenMember : Nat) (a_seenMinutes : Nat) (a_seenFact : Nat) (a_seenKnew : Nat) (a_sizes : Nat) (a_sorts : Nat) (a_places : Nat) (a_belows : Nat) (a_clubWord : Nat) (a_factWord : Nat) (a_memberWord : Nat) (a_commonWord : Nat) (a_stripedWord : Nat) (a_greedyWord : Nat) (a_bishopWord : Nat) (a_muffWord : Nat) (a_onWord : Nat) (a_line : Nat) (a_bestLine : Nat) (a_moved : Nat) (a_movedBelow : Nat) (sz : Nat) (x_undos : Int32) (x_seenMany : Int32) (x_first : Int32) (x_behind : Int32) (x_readFacts : Int32) (x_readMembers : Int32) (x_readLeeches : Int32) (x_clauses : Int32) (x_doing : Int32) (x_hasNow : Int32) (x_knowsNow : Int32) (x_isOff : Int32) (x_length : Int32) (n : Nat) (r_ret : Int32) (rm_length : Int32) (h : fX8_erase n x_length = some (r_ret, rm_length)) : Met l yX8_erase wsX8_erase ({ frames := 0, cells := 0, slots := 0, locals := 0 } : Room) (xPc D (xT c) sz [.ref a_this] (wX8_erase c a_this a_row a_isKept a_text a_seenMember a_seenMinutes a_seenFact a_seenKnew a_sizes a_sorts a_places a_belows a_clubWord a_factWord a_memberWord a_commonWord a_stripedWord a_greedyWord a_bishopWord a_muffWord a_onWord a_line a_bestLine a_moved a_movedBelow x_undos x_seenMany x_first x_behind x_readFacts x_readMembers x_readLeeches x_clauses x_doing x_hasNow x_knowsNow x_isOff x_length) (fun _ => True)) (xQi D (xT c) (va_A (wX8_erase c a_this a_row a_isKept a_text a_seenMember a_seenMinutes a_seenFact a_seenKnew a_sizes a_sorts a_places a_belows a_clubWord a_factWord a_memberWord a_commonWord a_stripedWord a_greedyWord a_bishopWord a_muffWord a_onWord a_line a_bestLine a_moved a_movedBelow x_undos x_seenMany x_first x_behind x_readFacts x_readMembers x_readLeeches x_clauses x_doing x_hasNow x_knowsNow x_isOff x_length) sz) r_ret (wX8_erase c a_this a_row a_isKept a_text a_seenMember a_seenMinutes a_seenFact a_seenKnew a_sizes a_sorts a_places a_belows a_clubWord a_factWord a_memberWord a_commonWord a_stripedWord a_greedyWord a_bishopWord a_muffWord a_onWord a_line a_bestLine a_moved a_movedBelow x_undos x_seenMany x_first x_behind x_readFacts x_readMembers x_readLeeches x_clauses x_doing x_hasNow x_knowsNow x_isOff rm_length)) 0 0 (va_A (wX8_erase c a_this a_row a_isKept a_text a_seenMember a_seenMinutes a_seenFact a_seenKnew a_sizes a_sorts a_places a_belows a_clubWord a_factWord a_memberWord a_commonWord a_stripedWord a_greedyWord a_bishopWord a_muffWord a_onWord a_line a_bestLine a_moved a_movedBelow x_undos x_seenMany x_first x_behind x_readFacts x_readMembers x_readLeeches x_clauses x_doing x_hasNow x_knowsNow x_isOff x_length) sz) := by
  refine Met.ofW (cc := cX8_erase) (maxL := 2) (ret := (some .int)) (by decide) rfl ?_
  intro p e s m args below meth cd s₁ B hml hv
  obtain ⟨rfl, hsz, hP, hK, hD0, hV⟩ := hv
  subst hsz
  have hl := lv_entry [.ref a_this] (n := 2) (Nat.le_of_ble_eq_true rfl)
  rw [lg_entry_eq]
  exact kX8_erase_0 (A := va_A (wX8_erase c a_this a_row a_isKept a_text a_seenMember a_seenMinutes a_seenFact a_seenKnew a_sizes a_sorts a_places a_belows a_clubWord a_factWord a_memberWord a_commonWord a_stripedWord a_greedyWord a_bishopWord a_muffWord a_onWord a_line a_bestLine a_moved a_movedBelow x_undos x_seenMany x_first x_behind x_readFacts x_readMembers x_readLeeches x_clauses x_doing x_hasNow x_knowsNow x_isOff x_length) s.heap.size) ⟨B.exec, B.bytes, hml, B.returns, findClass_of_methodNamed B.named, atoms_spec (ws := wsX8_erase) B.pre, B.notSynchronized, fun q h => Or.inr h, hK⟩ a_this a_row a_isKept a_text a_seenMember a_seenMinutes a_seenFact a_seenKnew a_sizes a_sorts a_places a_belows a_clubWord a_factWord a_memberWord a_commonWord a_stripedWord a_greedyWord a_bishopWord a_muffWord a_onWord a_line a_bestLine a_moved a_movedBelow x_undos x_seenMany x_first x_behind x_readFacts x_readMembers x_readLeeches x_clauses x_doing x_hasNow x_knowsNow x_isOff n r_ret rm_length x_length h s.heap [] _ hP hD0.self va_S.rf hl

abbrev wX8_isLetter (c : Nat → ClassId) : va_W := []
def GX8_isLetter (p : Program) (l : Launch) (e : Env) (s : State) (m : MethodId) (args : Array Value) (below : List Frame) (meth : Method) (cd : Code) (D : va_G) (c : Nat → ClassId) (A : Nat → Prop) (r_ret : Int32) (pc : Nat) (st : List Value) (loc : List (Nat × Value)) : Prop :=
  ∀ (H : Heap) (locs : List Loc) (ls : Array Slot), va_P D vwCl (wX8_isLetter c) H → va_D A (wX8_isLetter c) → va_S A s.heap H locs → lv_has ls 1 loc → W p l e ({ frames := 1, cells := 0, slots := 0, locals := 25 } : Room) s m args below meth cd H locs 0 0 (MQ below (xQi D (xT c) A r_ret (wX8_isLetter c)) args s 0 0 A) (F0 m pc ls st)
theorem lkX8_isLetter_J94 : Cond.constantLong RX8 94 97 ∈ wsX8_isLetter := by decide +kernel
theorem lkX8_isLetter_J96 : Cond.constantLong RX8 96 122 ∈ wsX8_isLetter := by decide +kernel
set_option maxHeartbeats 4000000 in
set_option maxRecDepth 100000 in
theorem kX8_isLetter_0 {p : Program} {l : Launch} {e : Env} {s : State} {m : MethodId} {args : Array Value} {below : List Frame} {meth : Method} {cd : Code} {D : va_G} {c : Nat → ClassId} {A : Nat → Prop} (E0 : xE p s m args meth cd D (xT c) A RX8 cX8_isLetter 1 (some .boolean) wsX8_isLetter) (n : Nat) (r_ret : Int32) (v0 : Int32) (hr : fX8_isLetter n v0 = some (r_ret)) : GX8_isLetter p l e s m args below meth cd D c A r_ret 0 [] [(0, .int v0)] := by
  have E1 := E0
  obtain ⟨hx, hb, hml, hret, hown, hts, hlocks, hA, hK⟩ := E1
  intro H locs ls hP hD hS hl
  unfold fX8_isLetter at hr
  refine lv_iload_n hx hb dX8_isLetter_0 rfl (lv_at hl 0 rfl) ?_
  refine lv_i2l hx hb dX8_isLetter_1 rfl ?_
  refine lv_ldc2 hx hb hown (hts _ lkX8_isLetter_J94) dX8_isLetter_2 ?_
  refine lv_ldc2 hx hb hown (hts _ lkX8_isLetter_J96) dX8_isLetter_5 ?_
  obtain ⟨q1_0, hc1, hr⟩ := x_bind hr
  refine x_runi (wr := []) (wf := []) (x_goS (As := [.long v0.toInt64, .long 97, .long 122]) (rest := []) ⟨hx, hb, hml, hown, hts⟩ (mX8_in l D c H.size v0.toInt64 97 122 n _ hc1) (va_cwS 3 hts gX8_isLetter_X8_in rfl rfl rfl (by decide +kernel) ⟨Nat.le_of_ble_eq_true rfl, Nat.le_of_ble_eq_true rfl⟩) xB_t hP hD hK [] rfl (by decide) (fun _ _ _ => trivial) rfl hl.1 rfl (Nat.le_of_ble_eq_true rfl) dX8_isLetter_8) hP hD hS hA [] [] [] rfl rfl rfl ⟨by decide, by decide, by decide⟩ (fun H locs hP hD hS => ?_)
  obtain ⟨hz, hr⟩ := x_need hr
  have e0 := x_some hr
  subst e0
  exact x_retz hx hb hret (x_nz hz) hlocks hP hD hK hS dX8_isLetter_11
set_option maxHeartbeats 4000000 in
set_option maxRecDepth 100000 in
theorem mX8_isLetter (l : Launch) (D : va_G) (c : Nat → ClassId) (sz : Nat) (v0 : Int32) (n : Nat) (r_ret : Int32) (h : fX8_isLetter n v0 = some (r_ret)) : Met l yX8_isLetter wsX8_isLetter ({ frames := 1, cells := 0, slots := 0, locals := 25 } : Room) (xPc D (xT c) sz [.int v0] (wX8_isLetter c) (fun _ => True)) (xQi D (xT c) (va_A (wX8_isLetter c) sz) r_ret (wX8_isLetter c)) 0 0 (va_A (wX8_isLetter c) sz) := by
  refine Met.ofW (cc := cX8_isLetter) (maxL := 1) (ret := (some .boolean)) (by decide) rfl ?_
  intro p e s m args below meth cd s₁ B hml hv
  obtain ⟨rfl, hsz, hP, hK, hD0, hV⟩ := hv
  subst hsz
  have hl := lv_entry [.int v0] (n := 1) (Nat.le_of_ble_eq_true rfl)
  rw [lg_entry_eq]
  exact kX8_isLetter_0 (A := va_A (wX8_isLetter c) s.heap.size) ⟨B.exec, B.bytes, hml, B.returns, findClass_of_methodNamed B.named, atoms_spec (ws := wsX8_isLetter) B.pre, B.notSynchronized, fun q h => Or.inr h, hK⟩ n r_ret v0 h s.heap [] _ hP hD0.self va_S.rf hl

abbrev wX8_isDigit (c : Nat → ClassId) : va_W := []
def GX8_isDigit (p : Program) (l : Launch) (e : Env) (s : State) (m : MethodId) (args : Array Value) (below : List Frame) (meth : Method) (cd : Code) (D : va_G) (c : Nat → ClassId) (A : Nat → Prop) (r_ret : Int32) (pc : Nat) (st : List Value) (loc : List (Nat × Value)) : Prop :=
  ∀ (H : Heap) (locs : List Loc) (ls : Array Slot), va_P D vwCl (wX8_isDigit c) H → va_D A (wX8_isDigit c) → va_S A s.heap H locs → lv_has ls 1 loc → W p l e ({ frames := 1, cells := 0, slots := 0, locals := 25 } : Room) s m args below meth cd H locs 0 0 (MQ below (xQi D (xT c) A r_ret (wX8_isDigit c)) args s 0 0 A) (F0 m pc ls st)
theorem lkX8_isDigit_J100 : Cond.constantLong RX8 100 57 ∈ wsX8_isDigit := by decide +kernel
theorem lkX8_isDigit_J98 : Cond.constantLong RX8 98 48 ∈ wsX8_isDigit := by decide +kernel
set_option maxHeartbeats 4000000 in
set_option maxRecDepth 100000 in
theorem kX8_isDigit_0 {p : Program} {l : Launch} {e : Env} {s : State} {m : MethodId} {args : Array Value} {below : List Frame} {meth : Method} {cd : Code} {D : va_G} {c : Nat → ClassId} {A : Nat → Prop} (E0 : xE p s m args meth cd D (xT c) A RX8 cX8_isDigit 1 (some .boolean) wsX8_isDigit) (n : Nat) (r_ret : Int32) (v0 : Int32) (hr : fX8_isDigit n v0 = some (r_ret)) : GX8_isDigit p l e s m args below meth cd D c A r_ret 0 [] [(0, .int v0)] := by
  have E1 := E0
  obtain ⟨hx, hb, hml, hret, hown, hts, hlocks, hA, hK⟩ := E1
  intro H locs ls hP hD hS hl
  unfold fX8_isDigit at hr
  refine lv_iload_n hx hb dX8_isDigit_0 rfl (lv_at hl 0 rfl) ?_
  refine lv_i2l hx hb dX8_isDigit_1 rfl ?_
  refine lv_ldc2 hx hb hown (hts _ lkX8_isDigit_J98) dX8_isDigit_2 ?_
  refine lv_ldc2 hx hb hown (hts _ lkX8_isDigit_J100) dX8_isDigit_5 ?_
  obtain ⟨q1_0, hc1, hr⟩ := x_bind hr
  refine x_runi (wr := []) (wf := []) (x_goS (As := [.long v0.toInt64, .long 48, .long 57]) (rest := []) ⟨hx, hb, hml, hown, hts⟩ (mX8_in l D c H.size v0.toInt64 48 57 n _ hc1) (va_cwS 3 hts gX8_isDigit_X8_in rfl rfl rfl (by decide +kernel) ⟨Nat.le_of_ble_eq_true rfl, Nat.le_of_ble_eq_true rfl⟩) xB_t hP hD hK [] rfl (by decide) (fun _ _ _ => trivial) rfl hl.1 rfl (Nat.le_of_ble_eq_true rfl) dX8_isDigit_8) hP hD hS hA [] [] [] rfl rfl rfl ⟨by decide, by decide, by decide⟩ (fun H locs hP hD hS => ?_)
  obtain ⟨hz, hr⟩ := x_need hr
  have e0 := x_some hr
  subst e0
  exact x_retz hx hb hret (x_nz hz) hlocks hP hD hK hS dX8_isDigit_11
set_option maxHeartbeats 4000000 in
set_option maxRecDepth 100000 in
theorem mX8_isDigit (l : Launch) (D : va_G) (c : Nat → ClassId) (sz : Nat) (v0 : Int32) (n : Nat) (r_ret : Int32) (h : fX8_isDigit n v0 = some (r_ret)) : Met l yX8_isDigit wsX8_isDigit ({ frames := 1, cells := 0, slots := 0, locals := 25 } : Room) (xPc D (xT c) sz [.int v0] (wX8_isDigit c) (fun _ => True)) (xQi D (xT c) (va_A (wX8_isDigit c) sz) r_ret (wX8_isDigit c)) 0 0 (va_A (wX8_isDigit c) sz) := by
  refine Met.ofW (cc := cX8_isDigit) (maxL := 1) (ret := (some .boolean)) (by decide) rfl ?_
  intro p e s m args below meth cd s₁ B hml hv
  obtain ⟨rfl, hsz, hP, hK, hD0, hV⟩ := hv
  subst hsz
  have hl := lv_entry [.int v0] (n := 1) (Nat.le_of_ble_eq_true rfl)
  rw [lg_entry_eq]
  exact kX8_isDigit_0 (A := va_A (wX8_isDigit c) s.heap.size) ⟨B.exec, B.bytes, hml, B.returns, findClass_of_methodNamed B.named, atoms_spec (ws := wsX8_isDigit) B.pre, B.notSynchronized, fun q h => Or.inr h, hK⟩ n r_ret v0 h s.heap [] _ hP hD0.self va_S.rf hl

