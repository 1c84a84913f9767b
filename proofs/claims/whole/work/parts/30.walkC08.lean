abbrev wX6_isWord (c : Nat → ClassId) (a_this : Nat) (a_letters : Nat) (a_facts : Nat) (a_room : Nat) (ev : Nat → Nat) (x_length : Int32) (x_clauses : Int32) (w_p0 : Nat) (x_end : Int32) (x_start : Int32) (x_letters : Nat → Int32) : va_W := [(a_this, .inr (6, [.ref a_letters, .int x_length, .int x_start, .int x_end, .int x_clauses, .ref a_facts, .ref a_room])), (a_letters, .inl (c 0, 200, .inl x_letters))]
def GX6_isWord (p : Program) (l : Launch) (e : Env) (s : State) (m : MethodId) (args : Array Value) (below : List Frame) (meth : Method) (cd : Code) (D : va_G) (c : Nat → ClassId) (A : Nat → Prop) (a_this : Nat) (a_letters : Nat) (a_facts : Nat) (a_room : Nat) (ev : Nat → Nat) (x_length : Int32) (x_clauses : Int32) (w_p0 : Nat) (x_end : Int32) (x_start : Int32) (x_letters : Nat → Int32) (r_ret : Int32) (pc : Nat) (st : List Value) (loc : List (Nat × Value)) : Prop :=
  ∀ (H : Heap) (locs : List Loc) (ls : Array Slot), va_P D vwCl (wX6_isWord c a_this a_letters a_facts a_room ev x_length x_clauses w_p0 x_end x_start x_letters) H → va_D A (wX6_isWord c a_this a_letters a_facts a_room ev x_length x_clauses w_p0 x_end x_start x_letters) → va_S A s.heap H locs → lv_has ls 3 loc → W p l e ({ frames := 9, cells := 0, slots := 0, locals := 261 } : Room) s m args below meth cd H locs 0 0 (MQ below (xQi D (xT c) A r_ret (wX6_isWord c a_this a_letters a_facts a_room ev x_length x_clauses w_p0 x_end x_start x_letters)) args s 0 0 A) (F0 m pc ls st)
theorem lkX6_isWord_f40 : Cond.fieldLink RX6 40 "LeechClub$Text" "end" "I" ∈ wsX6_isWord := by decide +kernel
theorem lkX6_isWord_f50 : Cond.fieldLink RX6 50 "LeechClub$Text" "start" "I" ∈ wsX6_isWord := by decide +kernel
theorem lkX6_isWord_f9 : Cond.fieldLink RX6 9 "LeechClub$Text" "letters" "[I" ∈ wsX6_isWord := by decide +kernel
theorem inX6_isWord_X6 : ∀ w ∈ wsX60, w ∈ wsX6_isWord := by decide +kernel
set_option maxHeartbeats 4000000 in
set_option maxRecDepth 100000 in
theorem kX6_isWord_20 {p : Program} {l : Launch} {e : Env} {s : State} {m : MethodId} {args : Array Value} {below : List Frame} {meth : Method} {cd : Code} {D : va_G} {c : Nat → ClassId} {A : Nat → Prop} (E0 : xE p s m args meth cd D (xT c) A RX6 cX6_isWord 3 (some .boolean) wsX6_isWord) (a_this : Nat) (a_letters : Nat) (a_facts : Nat) (a_room : Nat) (ev : Nat → Nat) (x_length : Int32) (x_clauses : Int32) (w_p0 : Nat) (x_end : Int32) (x_start : Int32) (x_letters : Nat → Int32) (n : Nat) (r_ret : Int32) (hw_p0 : w_p0 < 9) (hV : xV ev A s) : ∀ (k : Nat) (v2 : Int32), fX6_isWord_20 n w_p0 x_end x_start x_letters k v2 = some (r_ret) → GX6_isWord p l e s m args below meth cd D c A a_this a_letters a_facts a_room ev x_length x_clauses w_p0 x_end x_start x_letters r_ret 20 [] [(0, .ref a_this), (1, .ref (ev (10 + w_p0))), (2, .int v2)] := by
  have E1 := E0
  obtain ⟨hx, hb, hml, hret, hown, hts, hlocks, hA, hK⟩ := E1
  have hVV := hV
  obtain ⟨hn_RX7_9, hn_RX6_17, hn_RX6_24, hn_RX7_18, hn_RX7_25, hn_RX7_45, hn_RX7_52, hn_RX7_65, hn_RX7_70, hn_RX0_31, hn_RX3_53, hn_RX2_57, hn_RX3_65, hn_RX3_86, hz_TAKES, ht_TAKES, hz_HAS_ROOM, ht_HAS_ROOM, hz_SUCH, ht_SUCH, hz_FIRST_FIGURE, ht_FIRST_FIGURE, hz_compact, hz_sioobe, ho_Room, ho_Slate, ho_grid, hstr, hs_0, hs_1, hs_2, hs_3, hs_4, hs_5, hs_6, hs_7, hs_8⟩ := hVV
  intro k
  induction k with
  | zero => intro v2 hr; cases hr
  | succ k h_20 =>
    intro v2 hr H locs ls hP hD hS hl
    unfold fX6_isWord_20 at hr
    refine lv_iload_n hx hb dX6_isWord_20 rfl (lv_at hl 2 rfl) ?_
    refine lv_aload_n hx hb dX6_isWord_21 rfl (lv_at hl 1 rfl) ?_
    refine x_runi (wr := [(a_this, .inr (6, [.ref a_letters, .int x_length, .int x_start, .int x_end, .int x_clauses, .ref a_facts, .ref a_room])), (a_letters, .inl (c 0, 200, .inl x_letters))]) (wf := [(a_this, .inr (6, [.ref a_letters, .int x_length, .int x_start, .int x_end, .int x_clauses, .ref a_facts, .ref a_room])), (a_letters, .inl (c 0, 200, .inl x_letters))]) (x_goVr (As := []) (rest := [.int v2]) (wc := []) ⟨hx, hb, hml, hown, hts⟩ (cJ0_length l D c ev H.size w_p0 hw_p0) (cwV 0 hts gX6_isWord_J0_length_8abf5 rfl rfl rfl (by decide +kernel) ⟨Nat.le_of_ble_eq_true rfl, Nat.le_of_ble_eq_true rfl⟩) xV_b hP hD hK [] rfl (by decide) (fun U hU hW => xV_call hV hS (va_free hD hS hA [] rfl) hU hW) (vk_recv (adK := fun i => ev (10 + i)) (i := w_p0) hstr hw_p0 hS) rfl hl.1 rfl (Nat.le_of_ble_eq_true rfl) dX6_isWord_22) hP hD hS hA [] [0, 1] [0, 1] rfl rfl rfl ⟨by decide, by decide, by decide⟩ (fun H locs hP hD hS => ?_)
    refine lv_icmp_ge (tgt := 55) hx hb dX6_isWord_25 (by decide) (fun c_1 => ?_) (fun c_1 => ?_)
    · have hr := x_ift hr c_1
      refine lv_iconst (v := 1) hx hb dX6_isWord_55 (by decide) ?_
      have e0 := x_some hr
      subst e0
      exact x_retz hx hb hret rfl hlocks hP hD hK hS dX6_isWord_56
    · have hr := x_iff hr c_1
      refine lv_aload_n hx hb dX6_isWord_28 rfl (lv_at hl 0 rfl) ?_
      refine va_get (D := D) (ci := 6) (v := .ref a_letters) (C := RX6) (T := TX6) (N := 7) hx hb hts inX6_isWord_X6 hown hK hP 0 rfl rfl 0 (by decide) (hts _ lkX6_isWord_f9) (fun _ h9 => h9) rfl dX6_isWord_29 ?_
      refine lv_aload_n hx hb dX6_isWord_32 rfl (lv_at hl 0 rfl) ?_
      refine va_get (D := D) (ci := 6) (v := .int x_start) (C := RX6) (T := TX6) (N := 7) hx hb hts inX6_isWord_X6 hown hK hP 0 rfl rfl 2 (by decide) (hts _ lkX6_isWord_f50) (fun _ h9 => h9) rfl dX6_isWord_33 ?_
      refine lv_iload_n hx hb dX6_isWord_36 rfl (lv_at hl 2 rfl) ?_
      refine lv_iadd hx hb dX6_isWord_37 ?_
      obtain ⟨b_2, hr⟩ := x_chk hr
      refine va_iald hx hb hK hP 1 0 rfl rfl b_2 dX6_isWord_38 ?_
      refine lv_aload_n hx hb dX6_isWord_39 rfl (lv_at hl 1 rfl) ?_
      refine lv_iload_n hx hb dX6_isWord_40 rfl (lv_at hl 2 rfl) ?_
      obtain ⟨b_3, hr⟩ := x_chk hr
      refine x_runi (wr := [(a_this, .inr (6, [.ref a_letters, .int x_length, .int x_start, .int x_end, .int x_clauses, .ref a_facts, .ref a_room])), (a_letters, .inl (c 0, 200, .inl x_letters))]) (wf := [(a_this, .inr (6, [.ref a_letters, .int x_length, .int x_start, .int x_end, .int x_clauses, .ref a_facts, .ref a_room])), (a_letters, .inl (c 0, 200, .inl x_letters))]) (x_goVr (As := [.int v2]) (rest := [.int (x_letters (x_start + v2).toNatClampNeg)]) (wc := []) ⟨hx, hb, hml, hown, hts⟩ (cJ0_charAt l D c ev H.size w_p0 hw_p0 v2 b_3) (cwV 1 hts gX6_isWord_J0_charAt_5068e rfl rfl rfl (by decide +kernel) ⟨Nat.le_of_ble_eq_true rfl, Nat.le_of_ble_eq_true rfl⟩) xV_b hP hD hK [] rfl (by decide) (fun U hU hW => xV_call hV hS (va_free hD hS hA [] rfl) hU hW) (vk_recv (adK := fun i => ev (10 + i)) (i := w_p0) hstr hw_p0 hS) rfl hl.1 rfl (Nat.le_of_ble_eq_true rfl) dX6_isWord_41) hP hD hS hA [] [0, 1] [0, 1] rfl rfl rfl ⟨by decide, by decide, by decide⟩ (fun H locs hP hD hS => ?_)
      refine lv_icmp_eq (tgt := 49) hx hb dX6_isWord_44 (by decide) (fun c_4 => ?_) (fun c_4 => ?_)
      · have hr := x_ift hr c_4
        refine lv_iinc (v := v2 + 1) (lv' := [(2, .int (v2 + 1)), (0, .ref a_this), (1, .ref (ev (10 + w_p0)))]) hx hb dX6_isWord_49 hl (k := 2) rfl rfl (by decide) rfl (fun ls hl => ?_)
        refine lv_goto (tgt := 20) hx hb dX6_isWord_52 (by decide) ?_
        exact h_20 (v2 + 1) hr H locs ls hP hD hS (lv_sub hl [1, 2, 0] rfl)
      · have hr := x_iff hr c_4
        refine lv_iconst (v := 0) hx hb dX6_isWord_47 (by decide) ?_
        have e0 := x_some hr
        subst e0
        exact x_retz hx hb hret rfl hlocks hP hD hK hS dX6_isWord_48
set_option maxHeartbeats 4000000 in
set_option maxRecDepth 100000 in
theorem kX6_isWord_0 {p : Program} {l : Launch} {e : Env} {s : State} {m : MethodId} {args : Array Value} {below : List Frame} {meth : Method} {cd : Code} {D : va_G} {c : Nat → ClassId} {A : Nat → Prop} (E0 : xE p s m args meth cd D (xT c) A RX6 cX6_isWord 3 (some .boolean) wsX6_isWord) (a_this : Nat) (a_letters : Nat) (a_facts : Nat) (a_room : Nat) (ev : Nat → Nat) (x_length : Int32) (x_clauses : Int32) (w_p0 : Nat) (x_end : Int32) (x_start : Int32) (x_letters : Nat → Int32) (n : Nat) (r_ret : Int32) (hw_p0 : w_p0 < 9) (hV : xV ev A s) (hr : fX6_isWord n w_p0 x_end x_start x_letters = some (r_ret)) : GX6_isWord p l e s m args below meth cd D c A a_this a_letters a_facts a_room ev x_length x_clauses w_p0 x_end x_start x_letters r_ret 0 [] [(0, .ref a_this), (1, .ref (ev (10 + w_p0)))] := by
  have E1 := E0
  obtain ⟨hx, hb, hml, hret, hown, hts, hlocks, hA, hK⟩ := E1
  have hVV := hV
  obtain ⟨hn_RX7_9, hn_RX6_17, hn_RX6_24, hn_RX7_18, hn_RX7_25, hn_RX7_45, hn_RX7_52, hn_RX7_65, hn_RX7_70, hn_RX0_31, hn_RX3_53, hn_RX2_57, hn_RX3_65, hn_RX3_86, hz_TAKES, ht_TAKES, hz_HAS_ROOM, ht_HAS_ROOM, hz_SUCH, ht_SUCH, hz_FIRST_FIGURE, ht_FIRST_FIGURE, hz_compact, hz_sioobe, ho_Room, ho_Slate, ho_grid, hstr, hs_0, hs_1, hs_2, hs_3, hs_4, hs_5, hs_6, hs_7, hs_8⟩ := hVV
  intro H locs ls hP hD hS hl
  unfold fX6_isWord at hr
  refine lv_aload_n hx hb dX6_isWord_0 rfl (lv_at hl 0 rfl) ?_
  refine va_get (D := D) (ci := 6) (v := .int x_end) (C := RX6) (T := TX6) (N := 7) hx hb hts inX6_isWord_X6 hown hK hP 0 rfl rfl 3 (by decide) (hts _ lkX6_isWord_f40) (fun _ h9 => h9) rfl dX6_isWord_1 ?_
  refine lv_aload_n hx hb dX6_isWord_4 rfl (lv_at hl 0 rfl) ?_
  refine va_get (D := D) (ci := 6) (v := .int x_start) (C := RX6) (T := TX6) (N := 7) hx hb hts inX6_isWord_X6 hown hK hP 0 rfl rfl 2 (by decide) (hts _ lkX6_isWord_f50) (fun _ h9 => h9) rfl dX6_isWord_5 ?_
  refine lv_isub hx hb dX6_isWord_8 ?_
  refine lv_aload_n hx hb dX6_isWord_9 rfl (lv_at hl 1 rfl) ?_
  refine x_runi (wr := [(a_this, .inr (6, [.ref a_letters, .int x_length, .int x_start, .int x_end, .int x_clauses, .ref a_facts, .ref a_room])), (a_letters, .inl (c 0, 200, .inl x_letters))]) (wf := [(a_this, .inr (6, [.ref a_letters, .int x_length, .int x_start, .int x_end, .int x_clauses, .ref a_facts, .ref a_room])), (a_letters, .inl (c 0, 200, .inl x_letters))]) (x_goVr (As := []) (rest := [.int (x_end - x_start)]) (wc := []) ⟨hx, hb, hml, hown, hts⟩ (cJ0_length l D c ev H.size w_p0 hw_p0) (cwV 0 hts gX6_isWord_J0_length_8abf5 rfl rfl rfl (by decide +kernel) ⟨Nat.le_of_ble_eq_true rfl, Nat.le_of_ble_eq_true rfl⟩) xV_b hP hD hK [] rfl (by decide) (fun U hU hW => xV_call hV hS (va_free hD hS hA [] rfl) hU hW) (vk_recv (adK := fun i => ev (10 + i)) (i := w_p0) hstr hw_p0 hS) rfl hl.1 rfl (Nat.le_of_ble_eq_true rfl) dX6_isWord_10) hP hD hS hA [] [0, 1] [0, 1] rfl rfl rfl ⟨by decide, by decide, by decide⟩ (fun H locs hP hD hS => ?_)
  refine lv_icmp_eq (tgt := 18) hx hb dX6_isWord_13 (by decide) (fun c_1 => ?_) (fun c_1 => ?_)
  · have hr := x_ift hr c_1
    refine lv_iconst (v := 0) hx hb dX6_isWord_18 (by decide) ?_
    refine lv_istore_n (lv' := [(2, .int 0), (0, .ref a_this), (1, .ref (ev (10 + w_p0)))]) hx hb dX6_isWord_19 rfl hl (by decide) rfl (fun ls hl => ?_)
    exact kX6_isWord_20 E0 a_this a_letters a_facts a_room ev x_length x_clauses w_p0 x_end x_start x_letters n r_ret hw_p0 hV n 0 hr H locs ls hP hD hS (lv_sub hl [1, 2, 0] rfl)
  · have hr := x_iff hr c_1
    refine lv_iconst (v := 0) hx hb dX6_isWord_16 (by decide) ?_
    have e0 := x_some hr
    subst e0
    exact x_retz hx hb hret rfl hlocks hP hD hK hS dX6_isWord_17
set_option maxHeartbeats 4000000 in
set_option maxRecDepth 100000 in
theorem mX6_isWord (l : Launch) (D : va_G) (c : Nat → ClassId) (a_this : Nat) (a_letters : Nat) (a_facts : Nat) (a_room : Nat) (ev : Nat → Nat) (sz : Nat) (x_length : Int32) (x_clauses : Int32) (w_p0 : Nat) (x_end : Int32) (x_start : Int32) (x_letters : Nat → Int32) (n : Nat) (r_ret : Int32) (h : fX6_isWord n w_p0 x_end x_start x_letters = some (r_ret)) (hw_p0 : w_p0 < 9) : Met l yX6_isWord wsX6_isWord ({ frames := 9, cells := 0, slots := 0, locals := 261 } : Room) (xPc D (xT c) sz [.ref a_this, .ref (ev (10 + w_p0))] (wX6_isWord c a_this a_letters a_facts a_room ev x_length x_clauses w_p0 x_end x_start x_letters) (xV ev (va_A (wX6_isWord c a_this a_letters a_facts a_room ev x_length x_clauses w_p0 x_end x_start x_letters) sz))) (xQi D (xT c) (va_A (wX6_isWord c a_this a_letters a_facts a_room ev x_length x_clauses w_p0 x_end x_start x_letters) sz) r_ret (wX6_isWord c a_this a_letters a_facts a_room ev x_length x_clauses w_p0 x_end x_start x_letters)) 0 0 (va_A (wX6_isWord c a_this a_letters a_facts a_room ev x_length x_clauses w_p0 x_end x_start x_letters) sz) := by
  refine Met.ofW (cc := cX6_isWord) (maxL := 3) (ret := (some .boolean)) (by decide) rfl ?_
  intro p e s m args below meth cd s₁ B hml hv
  obtain ⟨rfl, hsz, hP, hK, hD0, hV⟩ := hv
  subst hsz
  have hl := lv_entry [.ref a_this, .ref (ev (10 + w_p0))] (n := 3) (Nat.le_of_ble_eq_true rfl)
  rw [lg_entry_eq]
  exact kX6_isWord_0 (A := va_A (wX6_isWord c a_this a_letters a_facts a_room ev x_length x_clauses w_p0 x_end x_start x_letters) s.heap.size) ⟨B.exec, B.bytes, hml, B.returns, findClass_of_methodNamed B.named, atoms_spec (ws := wsX6_isWord) B.pre, B.notSynchronized, fun q h => Or.inr h, hK⟩ a_this a_letters a_facts a_room ev x_length x_clauses w_p0 x_end x_start x_letters n r_ret hw_p0 hV h s.heap [] _ hP hD0.self va_S.rf hl

abbrev wX6_stepOverSet (c : Nat → ClassId) (a_this : Nat) (a_letters : Nat) (a_facts : Nat) (a_room : Nat) (a_facts_leans : Nat) (a_facts_all : Nat) (a_facts_lostWith : Nat) (x_clauses : Int32) (x_length : Int32) (x_letters : Nat → Int32) (x_facts_size : Int32) (x_start : Int32) (x_end : Int32) : va_W := [(a_this, .inr (6, [.ref a_letters, .int x_length, .int x_start, .int x_end, .int x_clauses, .ref a_facts, .ref a_room])), (a_letters, .inl (c 0, 200, .inl x_letters)), (a_facts, .inr (0, [.int x_facts_size, .ref a_facts_leans, .ref a_facts_all, .ref a_facts_lostWith]))]
def GX6_stepOverSet (p : Program) (l : Launch) (e : Env) (s : State) (m : MethodId) (args : Array Value) (below : List Frame) (meth : Method) (cd : Code) (D : va_G) (c : Nat → ClassId) (A : Nat → Prop) (a_this : Nat) (a_letters : Nat) (a_facts : Nat) (a_room : Nat) (a_facts_leans : Nat) (a_facts_all : Nat) (a_facts_lostWith : Nat) (x_clauses : Int32) (x_length : Int32) (x_letters : Nat → Int32) (x_facts_size : Int32) (r_ret : Int32) (rm_start : Int32) (rm_end : Int32) (pc : Nat) (st : List Value) (loc : List (Nat × Value)) (x_start : Int32) (x_end : Int32) : Prop :=
  ∀ (H : Heap) (locs : List Loc) (ls : Array Slot), va_P D vwCl (wX6_stepOverSet c a_this a_letters a_facts a_room a_facts_leans a_facts_all a_facts_lostWith x_clauses x_length x_letters x_facts_size x_start x_end) H → va_D A (wX6_stepOverSet c a_this a_letters a_facts a_room a_facts_leans a_facts_all a_facts_lostWith x_clauses x_length x_letters x_facts_size x_start x_end) → va_S A s.heap H locs → lv_has ls 5 loc → W p l e ({ frames := 2, cells := 0, slots := 0, locals := 41 } : Room) s m args below meth cd H locs 0 0 (MQ below (xQi D (xT c) A r_ret (wX6_stepOverSet c a_this a_letters a_facts a_room a_facts_leans a_facts_all a_facts_lostWith x_clauses x_length x_letters x_facts_size rm_start rm_end)) args s 0 0 A) (F0 m pc ls st)
theorem lkX6_stepOverSet_f18 : Cond.fieldLink RX6 18 "LeechClub$Text" "facts" "LLeechClub$Facts;" ∈ wsX6_stepOverSet := by decide +kernel
theorem lkX6_stepOverSet_f40 : Cond.fieldLink RX6 40 "LeechClub$Text" "end" "I" ∈ wsX6_stepOverSet := by decide +kernel
theorem lkX6_stepOverSet_f50 : Cond.fieldLink RX6 50 "LeechClub$Text" "start" "I" ∈ wsX6_stepOverSet := by decide +kernel
theorem lkX6_stepOverSet_f9 : Cond.fieldLink RX6 9 "LeechClub$Text" "letters" "[I" ∈ wsX6_stepOverSet := by decide +kernel
theorem inX6_stepOverSet_X6 : ∀ w ∈ wsX60, w ∈ wsX6_stepOverSet := by decide +kernel
set_option maxHeartbeats 4000000 in
set_option maxRecDepth 100000 in
theorem kX6_stepOverSet_68 {p : Program} {l : Launch} {e : Env} {s : State} {m : MethodId} {args : Array Value} {below : List Frame} {meth : Method} {cd : Code} {D : va_G} {c : Nat → ClassId} {A : Nat → Prop} (E0 : xE p s m args meth cd D (xT c) A RX6 cX6_stepOverSet 5 (some .int) wsX6_stepOverSet) (a_this : Nat) (a_letters : Nat) (a_facts : Nat) (a_room : Nat) (a_facts_leans : Nat) (a_facts_all : Nat) (a_facts_lostWith : Nat) (x_clauses : Int32) (x_length : Int32) (x_letters : Nat → Int32) (x_facts_size : Int32) (n : Nat) (r_ret : Int32) (rm_start : Int32) (rm_end : Int32) (x_start : Int32) (x_end : Int32) (hr : fX6_stepOverSet_68 n x_length x_letters x_facts_size x_start x_end = some (r_ret, rm_start, rm_end)) : GX6_stepOverSet p l e s m args below meth cd D c A a_this a_letters a_facts a_room a_facts_leans a_facts_all a_facts_lostWith x_clauses x_length x_letters x_facts_size r_ret rm_start rm_end 68 [] [] x_start x_end := by
  have E1 := E0
  obtain ⟨hx, hb, hml, hret, hown, hts, hlocks, hA, hK⟩ := E1
  intro H locs ls hP hD hS hl
  unfold fX6_stepOverSet_68 at hr
  refine lv_iconst (v := (-1)) hx hb dX6_stepOverSet_68 (by decide) ?_
  have g0 := x_some hr
  have e0 := x_p1 g0
  have g1 := x_p2 g0
  have e1 := x_p1 g1
  have e2 := x_p2 g1
  subst e0
  subst e1
  subst e2
  exact x_reti hx hb hret hlocks hP hD hK hS dX6_stepOverSet_69
set_option maxHeartbeats 4000000 in
set_option maxRecDepth 100000 in
theorem kX6_stepOverSet_50 {p : Program} {l : Launch} {e : Env} {s : State} {m : MethodId} {args : Array Value} {below : List Frame} {meth : Method} {cd : Code} {D : va_G} {c : Nat → ClassId} {A : Nat → Prop} (E0 : xE p s m args meth cd D (xT c) A RX6 cX6_stepOverSet 5 (some .int) wsX6_stepOverSet) (a_this : Nat) (a_letters : Nat) (a_facts : Nat) (a_room : Nat) (a_facts_leans : Nat) (a_facts_all : Nat) (a_facts_lostWith : Nat) (x_clauses : Int32) (x_length : Int32) (x_letters : Nat → Int32) (x_facts_size : Int32) (n : Nat) (r_ret : Int32) (rm_start : Int32) (rm_end : Int32) (r_20 : Int32 → Int32 → Int32 → Int32 → Option (Int32 × Int32 × Int32)) (h_20 : ∀ (x_start : Int32) (x_end : Int32) (v1 : Int32) (v2 : Int32), r_20 x_start x_end v1 v2 = some (r_ret, rm_start, rm_end) → GX6_stepOverSet p l e s m args below meth cd D c A a_this a_letters a_facts a_room a_facts_leans a_facts_all a_facts_lostWith x_clauses x_length x_letters x_facts_size r_ret rm_start rm_end 20 [] [(0, .ref a_this), (1, .int v1), (2, .int v2)] x_start x_end) (x_start : Int32) (x_end : Int32) (v1 : Int32) (v2 : Int32) (v3 : Int32) (t0 : Int32) (hr : fX6_stepOverSet_50 n r_20 x_length x_letters x_facts_size x_start x_end v1 v2 v3 t0 = some (r_ret, rm_start, rm_end)) : GX6_stepOverSet p l e s m args below meth cd D c A a_this a_letters a_facts a_room a_facts_leans a_facts_all a_facts_lostWith x_clauses x_length x_letters x_facts_size r_ret rm_start rm_end 50 [.int t0] [(0, .ref a_this), (1, .int v1), (2, .int v2), (3, .int v3)] x_start x_end := by
  have E1 := E0
  obtain ⟨hx, hb, hml, hret, hown, hts, hlocks, hA, hK⟩ := E1
  intro H locs ls hP hD hS hl
  unfold fX6_stepOverSet_50 at hr
  refine lv_istore (lv' := [(4, .int t0), (0, .ref a_this), (1, .int v1), (2, .int v2), (3, .int v3)]) hx hb dX6_stepOverSet_50 hl (by decide) rfl (fun ls hl => ?_)
  refine lv_aload_n hx hb dX6_stepOverSet_52 rfl (lv_at hl 1 rfl) ?_
  refine va_get (D := D) (ci := 6) (v := .ref a_facts) (C := RX6) (T := TX6) (N := 7) hx hb hts inX6_stepOverSet_X6 hown hK hP 0 rfl rfl 5 (by decide) (hts _ lkX6_stepOverSet_f18) (fun _ h9 => h9) rfl dX6_stepOverSet_53 ?_
  refine lv_iload_n hx hb dX6_stepOverSet_56 rfl (lv_at hl 4 rfl) ?_
  obtain ⟨q1_0, hc1, hr⟩ := x_bind hr
  refine x_runi (wr := [(a_this, .inr (6, [.ref a_letters, .int x_length, .int x_start, .int x_end, .int x_clauses, .ref a_facts, .ref a_room])), (a_letters, .inl (c 0, 200, .inl x_letters))]) (wf := [(a_this, .inr (6, [.ref a_letters, .int x_length, .int x_start, .int x_end, .int x_clauses, .ref a_facts, .ref a_room])), (a_letters, .inl (c 0, 200, .inl x_letters)), (a_facts, .inr (0, [.int x_facts_size, .ref a_facts_leans, .ref a_facts_all, .ref a_facts_lostWith]))]) (x_goV (As := [.int v3]) (rest := []) ⟨hx, hb, hml, hown, hts⟩ (mX0_hasFact l D c a_facts a_facts_leans a_facts_all a_facts_lostWith H.size x_facts_size v3 n _ hc1) (cwV 1 hts gX6_stepOverSet_X0_hasFact rfl rfl rfl (by decide +kernel) ⟨Nat.le_of_ble_eq_true rfl, Nat.le_of_ble_eq_true rfl⟩) xB_t hP hD hK [2] rfl (by decide) (fun _ _ _ => trivial) 2 0 rfl rfl rfl rfl hl.1 rfl (Nat.le_of_ble_eq_true rfl) dX6_stepOverSet_57) hP hD hS hA [2] [0, 1] [0, 1, 2] rfl rfl rfl ⟨by decide, by decide, by decide⟩ (fun H locs hP hD hS => ?_)
  refine lv_if_eq (tgt := 68) hx hb dX6_stepOverSet_60 (by decide) (fun c_2 => ?_) (fun c_2 => ?_)
  · have hr := x_ift hr c_2
    exact kX6_stepOverSet_68 E0 a_this a_letters a_facts a_room a_facts_leans a_facts_all a_facts_lostWith x_clauses x_length x_letters x_facts_size n r_ret rm_start rm_end x_start x_end hr H locs ls hP hD hS (lv_sub hl [] rfl)
  · have hr := x_iff hr c_2
    refine lv_iload hx hb dX6_stepOverSet_63 (lv_at hl 0 rfl) ?_
    refine lv_if_ne (tgt := 70) hx hb dX6_stepOverSet_65 (by decide) (fun c_3 => ?_) (fun c_3 => ?_)
    · have hr := x_iff hr c_3
      refine lv_iload_n hx hb dX6_stepOverSet_70 rfl (lv_at hl 2 rfl) ?_
      refine lv_iconst (v := 1) hx hb dX6_stepOverSet_71 (by decide) ?_
      refine lv_iload_n hx hb dX6_stepOverSet_72 rfl (lv_at hl 4 rfl) ?_
      refine lv_ishl hx hb dX6_stepOverSet_73 ?_
      refine lv_ior hx hb dX6_stepOverSet_74 ?_
      refine lv_istore_n (lv' := [(1, .int (v1 ||| (1 <<< (v3 &&& 31)))), (4, .int t0), (0, .ref a_this), (2, .int v2), (3, .int v3)]) hx hb dX6_stepOverSet_75 rfl hl (by decide) rfl (fun ls hl => ?_)
      refine lv_iinc (v := v2 + 1) (lv' := [(2, .int (v2 + 1)), (1, .int (v1 ||| (1 <<< (v3 &&& 31)))), (4, .int t0), (0, .ref a_this), (3, .int v3)]) hx hb dX6_stepOverSet_76 hl (k := 3) rfl rfl (by decide) rfl (fun ls hl => ?_)
      refine lv_goto (tgt := 20) hx hb dX6_stepOverSet_79 (by decide) ?_
      exact h_20 x_start x_end (v1 ||| (1 <<< (v3 &&& 31))) (v2 + 1) hr H locs ls hP hD hS (lv_sub hl [3, 1, 0] rfl)
    · have hr := x_ift hr c_3
      exact kX6_stepOverSet_68 E0 a_this a_letters a_facts a_room a_facts_leans a_facts_all a_facts_lostWith x_clauses x_length x_letters x_facts_size n r_ret rm_start rm_end x_start x_end hr H locs ls hP hD hS (lv_sub hl [] rfl)
set_option maxHeartbeats 4000000 in
set_option maxRecDepth 100000 in
theorem kX6_stepOverSet_20 {p : Program} {l : Launch} {e : Env} {s : State} {m : MethodId} {args : Array Value} {below : List Frame} {meth : Method} {cd : Code} {D : va_G} {c : Nat → ClassId} {A : Nat → Prop} (E0 : xE p s m args meth cd D (xT c) A RX6 cX6_stepOverSet 5 (some .int) wsX6_stepOverSet) (a_this : Nat) (a_letters : Nat) (a_facts : Nat) (a_room : Nat) (a_facts_leans : Nat) (a_facts_all : Nat) (a_facts_lostWith : Nat) (x_clauses : Int32) (x_length : Int32) (x_letters : Nat → Int32) (x_facts_size : Int32) (n : Nat) (r_ret : Int32) (rm_start : Int32) (rm_end : Int32) : ∀ (k : Nat) (x_start : Int32) (x_end : Int32) (v1 : Int32) (v2 : Int32), fX6_stepOverSet_20 n x_length x_letters x_facts_size k x_start x_end v1 v2 = some (r_ret, rm_start, rm_end) → GX6_stepOverSet p l e s m args below meth cd D c A a_this a_letters a_facts a_room a_facts_leans a_facts_all a_facts_lostWith x_clauses x_length x_letters x_facts_size r_ret rm_start rm_end 20 [] [(0, .ref a_this), (1, .int v1), (2, .int v2)] x_start x_end := by
  have E1 := E0
  obtain ⟨hx, hb, hml, hret, hown, hts, hlocks, hA, hK⟩ := E1
  intro k
  induction k with
  | zero => intro x_start x_end v1 v2 hr; cases hr
  | succ k h_20 =>
    intro x_start x_end v1 v2 hr H locs ls hP hD hS hl
    unfold fX6_stepOverSet_20 at hr
    refine lv_iload_n hx hb dX6_stepOverSet_20 rfl (lv_at hl 2 rfl) ?_
    refine lv_aload_n hx hb dX6_stepOverSet_21 rfl (lv_at hl 0 rfl) ?_
    refine va_get (D := D) (ci := 6) (v := .int x_end) (C := RX6) (T := TX6) (N := 7) hx hb hts inX6_stepOverSet_X6 hown hK hP 0 rfl rfl 3 (by decide) (hts _ lkX6_stepOverSet_f40) (fun _ h9 => h9) rfl dX6_stepOverSet_22 ?_
    refine lv_icmp_ge (tgt := 82) hx hb dX6_stepOverSet_25 (by decide) (fun c_1 => ?_) (fun c_1 => ?_)
    · have hr := x_ift hr c_1
      refine lv_aload_n hx hb dX6_stepOverSet_82 rfl (lv_at hl 0 rfl) ?_
      obtain ⟨⟨q2_0, q2_1⟩, hc2, hr⟩ := x_bind hr
      try dsimp only at hr
      refine x_runv (wr := [(a_facts, .inr (0, [.int x_facts_size, .ref a_facts_leans, .ref a_facts_all, .ref a_facts_lostWith]))]) (wf := [(a_this, .inr (6, [.ref a_letters, .int x_length, .int q2_0, .int q2_1, .int x_clauses, .ref a_facts, .ref a_room])), (a_letters, .inl (c 0, 200, .inl x_letters)), (a_facts, .inr (0, [.int x_facts_size, .ref a_facts_leans, .ref a_facts_all, .ref a_facts_lostWith]))]) (x_goV (As := []) (rest := []) ⟨hx, hb, hml, hown, hts⟩ (mX6_step l D c a_this a_letters a_facts a_room H.size x_clauses x_length x_letters x_start x_end n _ _ hc2) (cwV 0 hts gX6_stepOverSet_X6_step rfl rfl rfl (by decide +kernel) ⟨Nat.le_of_ble_eq_true rfl, Nat.le_of_ble_eq_true rfl⟩) xB_t hP hD hK [0, 1] rfl (by decide) (fun _ _ _ => trivial) 0 6 rfl rfl rfl rfl hl.1 rfl (Nat.le_of_ble_eq_true rfl) dX6_stepOverSet_83) hP hD hS hA [0, 1] [2] [1, 2, 0] rfl rfl rfl ⟨by decide, by decide, by decide⟩ (fun H locs hP hD hS => ?_)
      refine lv_iload_n hx hb dX6_stepOverSet_86 rfl (lv_at hl 1 rfl) ?_
      have g0 := x_some hr
      have e0 := x_p1 g0
      have g1 := x_p2 g0
      have e1 := x_p1 g1
      have e2 := x_p2 g1
      subst e0
      subst e1
      subst e2
      exact x_reti hx hb hret hlocks hP hD hK hS dX6_stepOverSet_87
    · have hr := x_iff hr c_1
      refine lv_aload_n hx hb dX6_stepOverSet_28 rfl (lv_at hl 0 rfl) ?_
      refine va_get (D := D) (ci := 6) (v := .ref a_letters) (C := RX6) (T := TX6) (N := 7) hx hb hts inX6_stepOverSet_X6 hown hK hP 0 rfl rfl 0 (by decide) (hts _ lkX6_stepOverSet_f9) (fun _ h9 => h9) rfl dX6_stepOverSet_29 ?_
      refine lv_iload_n hx hb dX6_stepOverSet_32 rfl (lv_at hl 2 rfl) ?_
      obtain ⟨b_3, hr⟩ := x_chk hr
      refine va_iald hx hb hK hP 1 0 rfl rfl b_3 dX6_stepOverSet_33 ?_
      refine lv_bipush (v := 97) hx hb dX6_stepOverSet_34 (by decide) ?_
      refine lv_isub hx hb dX6_stepOverSet_36 ?_
      refine lv_istore_n (lv' := [(3, .int ((x_letters v2.toNatClampNeg) - 97)), (0, .ref a_this), (1, .int v1), (2, .int v2)]) hx hb dX6_stepOverSet_37 rfl hl (by decide) rfl (fun ls hl => ?_)
      refine lv_iload_n hx hb dX6_stepOverSet_38 rfl (lv_at hl 2 rfl) ?_
      refine lv_iconst (v := 1) hx hb dX6_stepOverSet_39 (by decide) ?_
      refine lv_iload_n hx hb dX6_stepOverSet_40 rfl (lv_at hl 0 rfl) ?_
      refine lv_ishl hx hb dX6_stepOverSet_41 ?_
      refine lv_icmp_ge (tgt := 49) hx hb dX6_stepOverSet_42 (by decide) (fun c_4 => ?_) (fun c_4 => ?_)
      · have hr := x_ift hr c_4
        refine lv_iconst (v := 0) hx hb dX6_stepOverSet_49 (by decide) ?_
        exact kX6_stepOverSet_50 E0 a_this a_letters a_facts a_room a_facts_leans a_facts_all a_facts_lostWith x_clauses x_length x_letters x_facts_size n r_ret rm_start rm_end (fX6_stepOverSet_20 n x_length x_letters x_facts_size k) h_20 x_start x_end v1 v2 ((x_letters v2.toNatClampNeg) - 97) 0 hr H locs ls hP hD hS (lv_sub hl [1, 2, 3, 0] rfl)
      · have hr := x_iff hr c_4
        refine lv_iconst (v := 1) hx hb dX6_stepOverSet_45 (by decide) ?_
        refine lv_goto (tgt := 50) hx hb dX6_stepOverSet_46 (by decide) ?_
        exact kX6_stepOverSet_50 E0 a_this a_letters a_facts a_room a_facts_leans a_facts_all a_facts_lostWith x_clauses x_length x_letters x_facts_size n r_ret rm_start rm_end (fX6_stepOverSet_20 n x_length x_letters x_facts_size k) h_20 x_start x_end v1 v2 ((x_letters v2.toNatClampNeg) - 97) 1 hr H locs ls hP hD hS (lv_sub hl [1, 2, 3, 0] rfl)
set_option maxHeartbeats 4000000 in
set_option maxRecDepth 100000 in
theorem kX6_stepOverSet_0 {p : Program} {l : Launch} {e : Env} {s : State} {m : MethodId} {args : Array Value} {below : List Frame} {meth : Method} {cd : Code} {D : va_G} {c : Nat → ClassId} {A : Nat → Prop} (E0 : xE p s m args meth cd D (xT c) A RX6 cX6_stepOverSet 5 (some .int) wsX6_stepOverSet) (a_this : Nat) (a_letters : Nat) (a_facts : Nat) (a_room : Nat) (a_facts_leans : Nat) (a_facts_all : Nat) (a_facts_lostWith : Nat) (x_clauses : Int32) (x_length : Int32) (x_letters : Nat → Int32) (x_facts_size : Int32) (n : Nat) (r_ret : Int32) (rm_start : Int32) (rm_end : Int32) (x_start : Int32) (x_end : Int32) (hr : fX6_stepOverSet n x_length x_letters x_facts_size x_start x_end = some (r_ret, rm_start, rm_end)) : GX6_stepOverSet p l e s m args below meth cd D c A a_this a_letters a_facts a_room a_facts_leans a_facts_all a_facts_lostWith x_clauses x_length x_letters x_facts_size r_ret rm_start rm_end 0 [] [(0, .ref a_this)] x_start x_end := by
  have E1 := E0
  obtain ⟨hx, hb, hml, hret, hown, hts, hlocks, hA, hK⟩ := E1
  intro H locs ls hP hD hS hl
  unfold fX6_stepOverSet at hr
  refine lv_aload_n hx hb dX6_stepOverSet_0 rfl (lv_at hl 0 rfl) ?_
  refine lv_aload_n hx hb dX6_stepOverSet_1 rfl (lv_at hl 0 rfl) ?_
  refine va_get (D := D) (ci := 6) (v := .int x_start) (C := RX6) (T := TX6) (N := 7) hx hb hts inX6_stepOverSet_X6 hown hK hP 0 rfl rfl 2 (by decide) (hts _ lkX6_stepOverSet_f50) (fun _ h9 => h9) rfl dX6_stepOverSet_2 ?_
  obtain ⟨q1_0, hc1, hr⟩ := x_bind hr
  refine x_runi (wr := [(a_facts, .inr (0, [.int x_facts_size, .ref a_facts_leans, .ref a_facts_all, .ref a_facts_lostWith]))]) (wf := [(a_this, .inr (6, [.ref a_letters, .int x_length, .int x_start, .int x_end, .int x_clauses, .ref a_facts, .ref a_room])), (a_letters, .inl (c 0, 200, .inl x_letters)), (a_facts, .inr (0, [.int x_facts_size, .ref a_facts_leans, .ref a_facts_all, .ref a_facts_lostWith]))]) (x_goV (As := [.int x_start]) (rest := []) ⟨hx, hb, hml, hown, hts⟩ (mX6_isSmall l D c a_this a_letters a_facts a_room H.size x_start x_end x_clauses x_length x_letters x_start n _ hc1) (cwV 1 hts gX6_stepOverSet_X6_isSmall rfl rfl rfl (by decide +kernel) ⟨Nat.le_of_ble_eq_true rfl, Nat.le_of_ble_eq_true rfl⟩) xB_t hP hD hK [0, 1] rfl (by decide) (fun _ _ _ => trivial) 0 6 rfl rfl rfl rfl hl.1 rfl (Nat.le_of_ble_eq_true rfl) dX6_stepOverSet_5) hP hD hS hA [0, 1] [2] [1, 2, 0] rfl rfl rfl ⟨by decide, by decide, by decide⟩ (fun H locs hP hD hS => ?_)
  refine lv_if_ne (tgt := 13) hx hb dX6_stepOverSet_8 (by decide) (fun c_2 => ?_) (fun c_2 => ?_)
  · have hr := x_iff hr c_2
    refine lv_iconst (v := 0) hx hb dX6_stepOverSet_13 (by decide) ?_
    refine lv_istore_n (lv' := [(1, .int 0), (0, .ref a_this)]) hx hb dX6_stepOverSet_14 rfl hl (by decide) rfl (fun ls hl => ?_)
    refine lv_aload_n hx hb dX6_stepOverSet_15 rfl (lv_at hl 1 rfl) ?_
    refine va_get (D := D) (ci := 6) (v := .int x_start) (C := RX6) (T := TX6) (N := 7) hx hb hts inX6_stepOverSet_X6 hown hK hP 0 rfl rfl 2 (by decide) (hts _ lkX6_stepOverSet_f50) (fun _ h9 => h9) rfl dX6_stepOverSet_16 ?_
    refine lv_istore_n (lv' := [(2, .int x_start), (1, .int 0), (0, .ref a_this)]) hx hb dX6_stepOverSet_19 rfl hl (by decide) rfl (fun ls hl => ?_)
    exact kX6_stepOverSet_20 E0 a_this a_letters a_facts a_room a_facts_leans a_facts_all a_facts_lostWith x_clauses x_length x_letters x_facts_size n r_ret rm_start rm_end n x_start x_end 0 x_start hr H locs ls hP hD hS (lv_sub hl [2, 1, 0] rfl)
  · have hr := x_ift hr c_2
    refine lv_iconst (v := 0) hx hb dX6_stepOverSet_11 (by decide) ?_
    have g0 := x_some hr
    have e0 := x_p1 g0
    have g1 := x_p2 g0
    have e1 := x_p1 g1
    have e2 := x_p2 g1
    subst e0
    subst e1
    subst e2
    exact x_reti hx hb hret hlocks hP hD hK hS dX6_stepOverSet_12
set_option maxHeartbeats 4000000 in
set_option maxRecDepth 100000 in
theorem mX6_stepOverSet (l : Launch) (D : va_G) (c : Nat → ClassId) (a_this : Nat) (a_letters : Nat) (a_facts : Nat) (a_room : Nat) (a_facts_leans : Nat) (a_facts_all : Nat) (a_facts_lostWith : Nat) (sz : Nat) (x_clauses : Int32) (x_length : Int32) (x_letters : Nat → Int32) (x_facts_size : Int32) (x_start : Int32) (x_end : Int32) (n : Nat) (r_ret : Int32) (rm_start : Int32) (rm_end : Int32) (h : fX6_stepOverSet n x_length x_letters x_facts_size x_start x_end = some (r_ret, rm_start, rm_end)) : Met l yX6_stepOverSet wsX6_stepOverSet ({ frames := 2, cells := 0, slots := 0, locals := 41 } : Room) (xPc D (xT c) sz [.ref a_this] (wX6_stepOverSet c a_this a_letters a_facts a_room a_facts_leans a_facts_all a_facts_lostWith x_clauses x_length x_letters x_facts_size x_start x_end) (fun _ => True)) (xQi D (xT c) (va_A (wX6_stepOverSet c a_this a_letters a_facts a_room a_facts_leans a_facts_all a_facts_lostWith x_clauses x_length x_letters x_facts_size x_start x_end) sz) r_ret (wX6_stepOverSet c a_this a_letters a_facts a_room a_facts_leans a_facts_all a_facts_lostWith x_clauses x_length x_letters x_facts_size rm_start rm_end)) 0 0 (va_A (wX6_stepOverSet c a_this a_letters a_facts a_room a_facts_leans a_facts_all a_facts_lostWith x_clauses x_length x_letters x_facts_size x_start x_end) sz) := by
  refine Met.ofW (cc := cX6_stepOverSet) (maxL := 5) (ret := (some .int)) (by decide) rfl ?_
  intro p e s m args below meth cd s₁ B hml hv
  obtain ⟨rfl, hsz, hP, hK, hD0, hV⟩ := hv
  subst hsz
  have hl := lv_entry [.ref a_this] (n := 5) (Nat.le_of_ble_eq_true rfl)
  rw [lg_entry_eq]
  exact kX6_stepOverSet_0 (A := va_A (wX6_stepOverSet c a_this a_letters a_facts a_room a_facts_leans a_facts_all a_facts_lostWith x_clauses x_length x_letters x_facts_size x_start x_end) s.heap.size) ⟨B.exec, B.bytes, hml, B.returns, findClass_of_methodNamed B.named, atoms_spec (ws := wsX6_stepOverSet) B.pre, B.notSynchronized, fun q h => Or.inr h, hK⟩ a_this a_letters a_facts a_room a_facts_leans a_facts_all a_facts_lostWith x_clauses x_length x_letters x_facts_size n r_ret rm_start rm_end x_start x_end h s.heap [] _ hP hD0.self va_S.rf hl

abbrev wX6_takeFact (c : Nat → ClassId) (a_this : Nat) (a_letters : Nat) (a_facts : Nat) (a_room : Nat) (a_facts_leans : Nat) (a_facts_all : Nat) (a_facts_lostWith : Nat) (ev : Nat → Nat) (x_clauses : Int32) (x_length : Int32) (x_letters : Nat → Int32) (x_start : Int32) (x_end : Int32) (x_facts_leans : Nat → Int32) (x_facts_all : Nat → Int32) (x_facts_lostWith : Nat → Int32) (x_facts_size : Int32) : va_W := [(a_this, .inr (6, [.ref a_letters, .int x_length, .int x_start, .int x_end, .int x_clauses, .ref a_facts, .ref a_room])), (a_facts, .inr (0, [.int x_facts_size, .ref a_facts_leans, .ref a_facts_all, .ref a_facts_lostWith])), (a_letters, .inl (c 0, 200, .inl x_letters)), (a_facts_leans, .inl (c 0, 12, .inl x_facts_leans)), (a_facts_all, .inl (c 0, 12, .inl x_facts_all)), (a_facts_lostWith, .inl (c 0, 12, .inl x_facts_lostWith))]
def GX6_takeFact (p : Program) (l : Launch) (e : Env) (s : State) (m : MethodId) (args : Array Value) (below : List Frame) (meth : Method) (cd : Code) (D : va_G) (c : Nat → ClassId) (A : Nat → Prop) (a_this : Nat) (a_letters : Nat) (a_facts : Nat) (a_room : Nat) (a_facts_leans : Nat) (a_facts_all : Nat) (a_facts_lostWith : Nat) (ev : Nat → Nat) (x_clauses : Int32) (x_length : Int32) (x_letters : Nat → Int32) (r_ret : Int32) (rm_start : Int32) (rm_end : Int32) (rm_facts_leans : Nat → Int32) (rm_facts_all : Nat → Int32) (rm_facts_lostWith : Nat → Int32) (rm_facts_size : Int32) (pc : Nat) (st : List Value) (loc : List (Nat × Value)) (x_start : Int32) (x_end : Int32) (x_facts_leans : Nat → Int32) (x_facts_all : Nat → Int32) (x_facts_lostWith : Nat → Int32) (x_facts_size : Int32) : Prop :=
  ∀ (H : Heap) (locs : List Loc) (ls : Array Slot), va_P D vwCl (wX6_takeFact c a_this a_letters a_facts a_room a_facts_leans a_facts_all a_facts_lostWith ev x_clauses x_length x_letters x_start x_end x_facts_leans x_facts_all x_facts_lostWith x_facts_size) H → va_D A (wX6_takeFact c a_this a_letters a_facts a_room a_facts_leans a_facts_all a_facts_lostWith ev x_clauses x_length x_letters x_start x_end x_facts_leans x_facts_all x_facts_lostWith x_facts_size) → va_S A s.heap H locs → lv_has ls 2 loc → W p l e ({ frames := 3, cells := 0, slots := 0, locals := 67 } : Room) s m args below meth cd H locs 0 0 (MQ below (xQi D (xT c) A r_ret (wX6_takeFact c a_this a_letters a_facts a_room a_facts_leans a_facts_all a_facts_lostWith ev x_clauses x_length x_letters rm_start rm_end rm_facts_leans rm_facts_all rm_facts_lostWith rm_facts_size)) args s 0 0 A) (F0 m pc ls st)
theorem lkX6_takeFact_f18 : Cond.fieldLink RX6 18 "LeechClub$Text" "facts" "LLeechClub$Facts;" ∈ wsX6_takeFact := by decide +kernel
theorem lkX6_takeFact_f78 : Cond.fieldLink RX6 78 "LeechClub$Facts" "size" "I" ∈ wsX6_takeFact := by decide +kernel
theorem inX6_takeFact_X0 : ∀ w ∈ wsX00, w ∈ wsX6_takeFact := by decide +kernel
theorem inX6_takeFact_X6 : ∀ w ∈ wsX60, w ∈ wsX6_takeFact := by decide +kernel
set_option maxHeartbeats 4000000 in
set_option maxRecDepth 100000 in
theorem kX6_takeFact_0 {p : Program} {l : Launch} {e : Env} {s : State} {m : MethodId} {args : Array Value} {below : List Frame} {meth : Method} {cd : Code} {D : va_G} {c : Nat → ClassId} {A : Nat → Prop} (E0 : xE p s m args meth cd D (xT c) A RX6 cX6_takeFact 2 (some .boolean) wsX6_takeFact) (a_this : Nat) (a_letters : Nat) (a_facts : Nat) (a_room : Nat) (a_facts_leans : Nat) (a_facts_all : Nat) (a_facts_lostWith : Nat) (ev : Nat → Nat) (x_clauses : Int32) (x_length : Int32) (x_letters : Nat → Int32) (n : Nat) (r_ret : Int32) (rm_start : Int32) (rm_end : Int32) (rm_facts_leans : Nat → Int32) (rm_facts_all : Nat → Int32) (rm_facts_lostWith : Nat → Int32) (rm_facts_size : Int32) (hV : xV ev A s) (x_start : Int32) (x_end : Int32) (x_facts_leans : Nat → Int32) (x_facts_all : Nat → Int32) (x_facts_lostWith : Nat → Int32) (x_facts_size : Int32) (hr : fX6_takeFact n x_length x_letters x_start x_end x_facts_leans x_facts_all x_facts_lostWith x_facts_size = some (r_ret, rm_start, rm_end, rm_facts_leans, rm_facts_all, rm_facts_lostWith, rm_facts_size)) : GX6_takeFact p l e s m args below meth cd D c A a_this a_letters a_facts a_room a_facts_leans a_facts_all a_facts_lostWith ev x_clauses x_length x_letters r_ret rm_start rm_end rm_facts_leans rm_facts_all rm_facts_lostWith rm_facts_size 0 [] [(0, .ref a_this)] x_start x_end x_facts_leans x_facts_all x_facts_lostWith x_facts_size := by
  have E1 := E0
  obtain ⟨hx, hb, hml, hret, hown, hts, hlocks, hA, hK⟩ := E1
  have hVV := hV
  obtain ⟨hn_RX7_9, hn_RX6_17, hn_RX6_24, hn_RX7_18, hn_RX7_25, hn_RX7_45, hn_RX7_52, hn_RX7_65, hn_RX7_70, hn_RX0_31, hn_RX3_53, hn_RX2_57, hn_RX3_65, hn_RX3_86, hz_TAKES, ht_TAKES, hz_HAS_ROOM, ht_HAS_ROOM, hz_SUCH, ht_SUCH, hz_FIRST_FIGURE, ht_FIRST_FIGURE, hz_compact, hz_sioobe, ho_Room, ho_Slate, ho_grid, hstr, hs_0, hs_1, hs_2, hs_3, hs_4, hs_5, hs_6, hs_7, hs_8⟩ := hVV
  intro H locs ls hP hD hS hl
  unfold fX6_takeFact at hr
  refine lv_aload_n hx hb dX6_takeFact_0 rfl (lv_at hl 0 rfl) ?_
  refine va_get (D := D) (ci := 6) (v := .ref a_facts) (C := RX6) (T := TX6) (N := 7) hx hb hts inX6_takeFact_X6 hown hK hP 0 rfl rfl 5 (by decide) (hts _ lkX6_takeFact_f18) (fun _ h9 => h9) rfl dX6_takeFact_1 ?_
  refine va_get (D := D) (ci := 0) (v := .int x_facts_size) (C := RX0) (T := TX0) (N := 4) hx hb hts inX6_takeFact_X0 hown hK hP 1 rfl rfl 0 (by decide) (hts _ lkX6_takeFact_f78) (fun _ h9 => h9) rfl dX6_takeFact_4 ?_
  refine lv_bipush (v := 12) hx hb dX6_takeFact_7 (by decide) ?_
  refine lv_icmp_ne (tgt := 14) hx hb dX6_takeFact_9 (by decide) (fun c_1 => ?_) (fun c_1 => ?_)
  · have hr := x_iff hr c_1
    refine lv_aload_n hx hb dX6_takeFact_14 rfl (lv_at hl 0 rfl) ?_
    obtain ⟨⟨q2_0, q2_1⟩, hc2, hr⟩ := x_bind hr
    try dsimp only at hr
    refine x_runv (wr := [(a_facts, .inr (0, [.int x_facts_size, .ref a_facts_leans, .ref a_facts_all, .ref a_facts_lostWith])), (a_facts_leans, .inl (c 0, 12, .inl x_facts_leans)), (a_facts_all, .inl (c 0, 12, .inl x_facts_all)), (a_facts_lostWith, .inl (c 0, 12, .inl x_facts_lostWith))]) (wf := [(a_this, .inr (6, [.ref a_letters, .int x_length, .int q2_0, .int q2_1, .int x_clauses, .ref a_facts, .ref a_room])), (a_facts, .inr (0, [.int x_facts_size, .ref a_facts_leans, .ref a_facts_all, .ref a_facts_lostWith])), (a_letters, .inl (c 0, 200, .inl x_letters)), (a_facts_leans, .inl (c 0, 12, .inl x_facts_leans)), (a_facts_all, .inl (c 0, 12, .inl x_facts_all)), (a_facts_lostWith, .inl (c 0, 12, .inl x_facts_lostWith))]) (x_goV (As := []) (rest := []) ⟨hx, hb, hml, hown, hts⟩ (mX6_step l D c a_this a_letters a_facts a_room H.size x_clauses x_length x_letters x_start x_end n _ _ hc2) (cwV 0 hts gX6_takeFact_X6_step rfl rfl rfl (by decide +kernel) ⟨Nat.le_of_ble_eq_true rfl, Nat.le_of_ble_eq_true rfl⟩) xB_t hP hD hK [0, 2] rfl (by decide) (fun _ _ _ => trivial) 0 6 rfl rfl rfl rfl hl.1 rfl (Nat.le_of_ble_eq_true rfl) dX6_takeFact_15) hP hD hS hA [0, 2] [1, 3, 4, 5] [4, 0, 5, 1, 2, 3] rfl rfl rfl ⟨by decide, by decide, by decide⟩ (fun H locs hP hD hS => ?_)
    refine lv_aload_n hx hb dX6_takeFact_18 rfl (lv_at hl 0 rfl) ?_
    obtain ⟨⟨q3_0, q3_1, q3_2⟩, hc3, hr⟩ := x_bind hr
    try dsimp only at hr
    refine x_runi (wr := [(a_facts_leans, .inl (c 0, 12, .inl x_facts_leans)), (a_facts_all, .inl (c 0, 12, .inl x_facts_all)), (a_facts_lostWith, .inl (c 0, 12, .inl x_facts_lostWith))]) (wf := [(a_this, .inr (6, [.ref a_letters, .int x_length, .int q3_1, .int q3_2, .int x_clauses, .ref a_facts, .ref a_room])), (a_facts, .inr (0, [.int x_facts_size, .ref a_facts_leans, .ref a_facts_all, .ref a_facts_lostWith])), (a_letters, .inl (c 0, 200, .inl x_letters)), (a_facts_leans, .inl (c 0, 12, .inl x_facts_leans)), (a_facts_all, .inl (c 0, 12, .inl x_facts_all)), (a_facts_lostWith, .inl (c 0, 12, .inl x_facts_lostWith))]) (x_goV (As := []) (rest := []) ⟨hx, hb, hml, hown, hts⟩ (mX6_stepOverSet l D c a_this a_letters a_facts a_room a_facts_leans a_facts_all a_facts_lostWith H.size x_clauses x_length x_letters x_facts_size q2_0 q2_1 n _ _ _ hc3) (cwV 0 hts gX6_takeFact_X6_stepOverSet rfl rfl rfl (by decide +kernel) ⟨Nat.le_of_ble_eq_true rfl, Nat.le_of_ble_eq_true rfl⟩) xB_t hP hD hK [0, 2, 1] rfl (by decide) (fun _ _ _ => trivial) 0 6 rfl rfl rfl rfl hl.1 rfl (Nat.le_of_ble_eq_true rfl) dX6_takeFact_19) hP hD hS hA [0, 2, 1] [3, 4, 5] [3, 5, 4, 0, 1, 2] rfl rfl rfl ⟨by decide, by decide, by decide⟩ (fun H locs hP hD hS => ?_)
    refine lv_istore_n (lv' := [(1, .int q3_0), (0, .ref a_this)]) hx hb dX6_takeFact_22 rfl hl (by decide) rfl (fun ls hl => ?_)
    refine lv_iload_n hx hb dX6_takeFact_23 rfl (lv_at hl 0 rfl) ?_
    refine lv_iconst (v := (-1)) hx hb dX6_takeFact_24 (by decide) ?_
    refine lv_icmp_ne (tgt := 30) hx hb dX6_takeFact_25 (by decide) (fun c_4 => ?_) (fun c_4 => ?_)
    · have hr := x_iff hr c_4
      refine lv_aload_n hx hb dX6_takeFact_30 rfl (lv_at hl 1 rfl) ?_
      refine va_get (D := D) (ci := 6) (v := .ref a_facts) (C := RX6) (T := TX6) (N := 7) hx hb hts inX6_takeFact_X6 hown hK hP 0 rfl rfl 5 (by decide) (hts _ lkX6_takeFact_f18) (fun _ h9 => h9) rfl dX6_takeFact_31 ?_
      refine lv_iload_n hx hb dX6_takeFact_34 rfl (lv_at hl 0 rfl) ?_
      obtain ⟨⟨q5_0, q5_1, q5_2, q5_3⟩, hc5, hr⟩ := x_bind hr
      try dsimp only at hr
      refine x_runv (wr := [(a_this, .inr (6, [.ref a_letters, .int x_length, .int q3_1, .int q3_2, .int x_clauses, .ref a_facts, .ref a_room])), (a_letters, .inl (c 0, 200, .inl x_letters))]) (wf := [(a_this, .inr (6, [.ref a_letters, .int x_length, .int q3_1, .int q3_2, .int x_clauses, .ref a_facts, .ref a_room])), (a_facts, .inr (0, [.int q5_3, .ref a_facts_leans, .ref a_facts_all, .ref a_facts_lostWith])), (a_letters, .inl (c 0, 200, .inl x_letters)), (a_facts_leans, .inl (c 0, 12, .inl q5_0)), (a_facts_all, .inl (c 0, 12, .inl q5_1)), (a_facts_lostWith, .inl (c 0, 12, .inl q5_2))]) (x_goV (As := [.int q3_0]) (rest := []) ⟨hx, hb, hml, hown, hts⟩ (mX0_add l D c a_facts a_facts_leans a_facts_all a_facts_lostWith ev H.size x_facts_leans x_facts_all x_facts_lostWith x_facts_size q3_0 n _ _ _ _ hc5) (cwV 1 hts gX6_takeFact_X0_add rfl rfl rfl (by decide +kernel) ⟨Nat.le_of_ble_eq_true rfl, Nat.le_of_ble_eq_true rfl⟩) xV_b hP hD hK [1, 3, 4, 5] rfl (by decide) (fun U hU hW => xV_call hV hS (va_free hD hS hA [1, 3, 4, 5] rfl) hU hW) 1 0 rfl rfl rfl rfl hl.1 rfl (Nat.le_of_ble_eq_true rfl) dX6_takeFact_35) hP hD hS hA [1, 3, 4, 5] [0, 2] [0, 2, 1, 3, 4, 5] rfl rfl rfl ⟨by decide, by decide, by decide⟩ (fun H locs hP hD hS => ?_)
      refine lv_iconst (v := 1) hx hb dX6_takeFact_38 (by decide) ?_
      have g0 := x_some hr
      have e0 := x_p1 g0
      have g1 := x_p2 g0
      have e1 := x_p1 g1
      have g2 := x_p2 g1
      have e2 := x_p1 g2
      have g3 := x_p2 g2
      have e3 := x_p1 g3
      have g4 := x_p2 g3
      have e4 := x_p1 g4
      have g5 := x_p2 g4
      have e5 := x_p1 g5
      have e6 := x_p2 g5
      subst e0
      subst e1
      subst e2
      subst e3
      subst e4
      subst e5
      subst e6
      exact x_retz hx hb hret rfl hlocks hP hD hK hS dX6_takeFact_39
    · have hr := x_ift hr c_4
      refine lv_iconst (v := 0) hx hb dX6_takeFact_28 (by decide) ?_
      have g0 := x_some hr
      have e0 := x_p1 g0
      have g1 := x_p2 g0
      have e1 := x_p1 g1
      have g2 := x_p2 g1
      have e2 := x_p1 g2
      have g3 := x_p2 g2
      have e3 := x_p1 g3
      have g4 := x_p2 g3
      have e4 := x_p1 g4
      have g5 := x_p2 g4
      have e5 := x_p1 g5
      have e6 := x_p2 g5
      subst e0
      subst e1
      subst e2
      subst e3
      subst e4
      subst e5
      subst e6
      exact x_retz hx hb hret rfl hlocks hP hD hK hS dX6_takeFact_29
  · have hr := x_ift hr c_1
    refine lv_iconst (v := 0) hx hb dX6_takeFact_12 (by decide) ?_
    have g0 := x_some hr
    have e0 := x_p1 g0
    have g1 := x_p2 g0
    have e1 := x_p1 g1
    have g2 := x_p2 g1
    have e2 := x_p1 g2
    have g3 := x_p2 g2
    have e3 := x_p1 g3
    have g4 := x_p2 g3
    have e4 := x_p1 g4
    have g5 := x_p2 g4
    have e5 := x_p1 g5
    have e6 := x_p2 g5
    subst e0
    subst e1
    subst e2
    subst e3
    subst e4
    subst e5
    subst e6
    exact x_retz hx hb hret rfl hlocks hP hD hK hS dX6_takeFact_13
set_option maxHeartbeats 4000000 in
set_option maxRecDepth 100000 in
theorem mX6_takeFact (l : Launch) (D : va_G) (c : Nat → ClassId) (a_this : Nat) (a_letters : Nat) (a_facts : Nat) (a_room : Nat) (a_facts_leans : Nat) (a_facts_all : Nat) (a_facts_lostWith : Nat) (ev : Nat → Nat) (sz : Nat) (x_clauses : Int32) (x_length : Int32) (x_letters : Nat → Int32) (x_start : Int32) (x_end : Int32) (x_facts_leans : Nat → Int32) (x_facts_all : Nat → Int32) (x_facts_lostWith : Nat → Int32) (x_facts_size : Int32) (n : Nat) (r_ret : Int32) (rm_start : Int32) (rm_end : Int32) (rm_facts_leans : Nat → Int32) (rm_facts_all : Nat → Int32) (rm_facts_lostWith : Nat → Int32) (rm_facts_size : Int32) (h : fX6_takeFact n x_length x_letters x_start x_end x_facts_leans x_facts_all x_facts_lostWith x_facts_size = some (r_ret, rm_start, rm_end, rm_facts_leans, rm_facts_all, rm_facts_lostWith, rm_facts_size)) : Met l yX6_takeFact wsX6_takeFact ({ frames := 3, cells := 0, slots := 0, locals := 67 } : Room) (xPc D (xT c) sz [.ref a_this] (wX6_takeFact c a_this a_letters a_facts a_room a_facts_leans a_facts_all a_facts_lostWith ev x_clauses x_length x_letters x_start x_end x_facts_leans x_facts_all x_facts_lostWith x_facts_size) (xV ev (va_A (wX6_takeFact c a_this a_letters a_facts a_room a_facts_leans a_facts_all a_facts_lostWith ev x_clauses x_length x_letters x_start x_end x_facts_leans x_facts_all x_facts_lostWith x_facts_size) sz))) (xQi D (xT c) (va_A (wX6_takeFact c a_this a_letters a_facts a_room a_facts_leans a_facts_all a_facts_lostWith ev x_clauses x_length x_letters x_start x_end x_facts_leans x_facts_all x_facts_lostWith x_facts_size) sz) r_ret (wX6_takeFact c a_this a_letters a_facts a_room a_facts_leans a_facts_all a_facts_lostWith ev x_clauses x_length x_letters rm_start rm_end rm_facts_leans rm_facts_all rm_facts_lostWith rm_facts_size)) 0 0 (va_A (wX6_takeFact c a_this a_letters a_facts a_room a_facts_leans a_facts_all a_facts_lostWith ev x_clauses x_length x_letters x_start x_end x_facts_leans x_facts_all x_facts_lostWith x_facts_size) sz) := by
  refine Met.ofW (cc := cX6_takeFact) (maxL := 2) (ret := (some .boolean)) (by decide) rfl ?_
  intro p e s m args below meth cd s₁ B hml hv
  obtain ⟨rfl, hsz, hP, hK, hD0, hV⟩ := hv
  subst hsz
  have hl := lv_entry [.ref a_this] (n := 2) (Nat.le_of_ble_eq_true rfl)
  rw [lg_entry_eq]
  exact kX6_takeFact_0 (A := va_A (wX6_takeFact c a_this a_letters a_facts a_room a_facts_leans a_facts_all a_facts_lostWith ev x_clauses x_length x_letters x_start x_end x_facts_leans x_facts_all x_facts_lostWith x_facts_size) s.heap.size) ⟨B.exec, B.bytes, hml, B.returns, findClass_of_methodNamed B.named, atoms_spec (ws := wsX6_takeFact) B.pre, B.notSynchronized, fun q h => Or.inr h, hK⟩ a_this a_letters a_facts a_room a_facts_leans a_facts_all a_facts_lostWith ev x_clauses x_length x_letters n r_ret rm_start rm_end rm_facts_leans rm_facts_all rm_facts_lostWith rm_facts_size hV x_start x_end x_facts_leans x_facts_all x_facts_lostWith x_facts_size h s.heap [] _ hP hD0.self va_S.rf hl

abbrev wX6_kindOfWord (c : Nat → ClassId) (a_this : Nat) (a_letters : Nat) (a_facts : Nat) (a_room : Nat) (ev : Nat → Nat) (x_length : Int32) (x_clauses : Int32) (x_end : Int32) (x_start : Int32) (x_letters : Nat → Int32) : va_W := [(a_this, .inr (6, [.ref a_letters, .int x_length, .int x_start, .int x_end, .int x_clauses, .ref a_facts, .ref a_room])), (a_letters, .inl (c 0, 200, .inl x_letters))]
def GX6_kindOfWord (p : Program) (l : Launch) (e : Env) (s : State) (m : MethodId) (args : Array Value) (below : List Frame) (meth : Method) (cd : Code) (D : va_G) (c : Nat → ClassId) (A : Nat → Prop) (a_this : Nat) (a_letters : Nat) (a_facts : Nat) (a_room : Nat) (ev : Nat → Nat) (x_length : Int32) (x_clauses : Int32) (x_end : Int32) (x_start : Int32) (x_letters : Nat → Int32) (r_ret : Int32) (pc : Nat) (st : List Value) (loc : List (Nat × Value)) : Prop :=
  ∀ (H : Heap) (locs : List Loc) (ls : Array Slot), va_P D vwCl (wX6_kindOfWord c a_this a_letters a_facts a_room ev x_length x_clauses x_end x_start x_letters) H → va_D A (wX6_kindOfWord c a_this a_letters a_facts a_room ev x_length x_clauses x_end x_start x_letters) → va_S A s.heap H locs → lv_has ls 1 loc → W p l e ({ frames := 10, cells := 0, slots := 0, locals := 283 } : Room) s m args below meth cd H locs 0 0 (MQ below (xQi D (xT c) A r_ret (wX6_kindOfWord c a_this a_letters a_facts a_room ev x_length x_clauses x_end x_start x_letters)) args s 0 0 A) (F0 m pc ls st)
set_option maxHeartbeats 4000000 in
set_option maxRecDepth 100000 in
theorem kX6_kindOfWord_58 {p : Program} {l : Launch} {e : Env} {s : State} {m : MethodId} {args : Array Value} {below : List Frame} {meth : Method} {cd : Code} {D : va_G} {c : Nat → ClassId} {A : Nat → Prop} (E0 : xE p s m args meth cd D (xT c) A RX6 cX6_kindOfWord 1 (some .int) wsX6_kindOfWord) (a_this : Nat) (a_letters : Nat) (a_facts : Nat) (a_room : Nat) (ev : Nat → Nat) (x_length : Int32) (x_clauses : Int32) (x_end : Int32) (x_start : Int32) (x_letters : Nat → Int32) (n : Nat) (r_ret : Int32) (hV : xV ev A s) (t0 : Int32) (hr : fX6_kindOfWord_58 n x_end x_start x_letters t0 = some (r_ret)) : GX6_kindOfWord p l e s m args below meth cd D c A a_this a_letters a_facts a_room ev x_length x_clauses x_end x_start x_letters r_ret 58 [.int t0] [] := by
  have E1 := E0
  obtain ⟨hx, hb, hml, hret, hown, hts, hlocks, hA, hK⟩ := E1
  have hVV := hV
  obtain ⟨hn_RX7_9, hn_RX6_17, hn_RX6_24, hn_RX7_18, hn_RX7_25, hn_RX7_45, hn_RX7_52, hn_RX7_65, hn_RX7_70, hn_RX0_31, hn_RX3_53, hn_RX2_57, hn_RX3_65, hn_RX3_86, hz_TAKES, ht_TAKES, hz_HAS_ROOM, ht_HAS_ROOM, hz_SUCH, ht_SUCH, hz_FIRST_FIGURE, ht_FIRST_FIGURE, hz_compact, hz_sioobe, ho_Room, ho_Slate, ho_grid, hstr, hs_0, hs_1, hs_2, hs_3, hs_4, hs_5, hs_6, hs_7, hs_8⟩ := hVV
  intro H locs ls hP hD hS hl
  unfold fX6_kindOfWord_58 at hr
  have e0 := x_some hr
  subst e0
  exact x_reti hx hb hret hlocks hP hD hK hS dX6_kindOfWord_58
set_option maxHeartbeats 4000000 in
set_option maxRecDepth 100000 in
theorem kX6_kindOfWord_0 {p : Program} {l : Launch} {e : Env} {s : State} {m : MethodId} {args : Array Value} {below : List Frame} {meth : Method} {cd : Code} {D : va_G} {c : Nat → ClassId} {A : Nat → Prop} (E0 : xE p s m args meth cd D (xT c) A RX6 cX6_kindOfWord 1 (some .int) wsX6_kindOfWord) (a_this : Nat) (a_letters : Nat) (a_facts : Nat) (a_room : Nat) (ev : Nat → Nat) (x_length : Int32) (x_clauses : Int32) (x_end : Int32) (x_start : Int32) (x_letters : Nat → Int32) (n : Nat) (r_ret : Int32) (hV : xV ev A s) (hr : fX6_kindOfWord n x_end x_start x_letters = some (r_ret)) : GX6_kindOfWord p l e s m args below meth cd D c A a_this a_letters a_facts a_room ev x_length x_clauses x_end x_start x_letters r_ret 0 [] [(0, .ref a_this)] := by
  have E1 := E0
  obtain ⟨hx, hb, hml, hret, hown, hts, hlocks, hA, hK⟩ := E1
  have hVV := hV
  obtain ⟨hn_RX7_9, hn_RX6_17, hn_RX6_24, hn_RX7_18, hn_RX7_25, hn_RX7_45, hn_RX7_52, hn_RX7_65, hn_RX7_70, hn_RX0_31, hn_RX3_53, hn_RX2_57, hn_RX3_65, hn_RX3_86, hz_TAKES, ht_TAKES, hz_HAS_ROOM, ht_HAS_ROOM, hz_SUCH, ht_SUCH, hz_FIRST_FIGURE, ht_FIRST_FIGURE, hz_compact, hz_sioobe, ho_Room, ho_Slate, ho_grid, hstr, hs_0, hs_1, hs_2, hs_3, hs_4, hs_5, hs_6, hs_7, hs_8⟩ := hVV
  intro H locs ls hP hD hS hl
  unfold fX6_kindOfWord at hr
  refine lv_aload_n hx hb dX6_kindOfWord_0 rfl (lv_at hl 0 rfl) ?_
  refine va_ldcS hx hb hown hs_4 dX6_kindOfWord_1 ?_
  obtain ⟨q1_0, hc1, hr⟩ := x_bind hr
  refine x_runi (wr := []) (wf := [(a_this, .inr (6, [.ref a_letters, .int x_length, .int x_start, .int x_end, .int x_clauses, .ref a_facts, .ref a_room])), (a_letters, .inl (c 0, 200, .inl x_letters))]) (x_goV (As := [.ref (ev (10 + 4))]) (rest := []) ⟨hx, hb, hml, hown, hts⟩ (mX6_isWord l D c a_this a_letters a_facts a_room ev H.size x_length x_clauses 4 x_end x_start x_letters n _ hc1 (by decide)) (cwV 1 hts gX6_kindOfWord_X6_isWord rfl rfl rfl (by decide +kernel) ⟨Nat.le_of_ble_eq_true rfl, Nat.le_of_ble_eq_true rfl⟩) xV_b hP hD hK [0, 1] rfl (by decide) (fun U hU hW => xV_call hV hS (va_free hD hS hA [0, 1] rfl) hU hW) 0 6 rfl rfl rfl rfl hl.1 rfl (Nat.le_of_ble_eq_true rfl) dX6_kindOfWord_3) hP hD hS hA [0, 1] [] [0, 1] rfl rfl rfl ⟨by decide, by decide, by decide⟩ (fun H locs hP hD hS => ?_)
  refine lv_if_eq (tgt := 11) hx hb dX6_kindOfWord_6 (by decide) (fun c_2 => ?_) (fun c_2 => ?_)
  · have hr := x_ift hr c_2
    refine lv_aload_n hx hb dX6_kindOfWord_11 rfl (lv_at hl 0 rfl) ?_
    refine va_ldcS hx hb hown hs_5 dX6_kindOfWord_12 ?_
    obtain ⟨q3_0, hc3, hr⟩ := x_bind hr
    refine x_runi (wr := []) (wf := [(a_this, .inr (6, [.ref a_letters, .int x_length, .int x_start, .int x_end, .int x_clauses, .ref a_facts, .ref a_room])), (a_letters, .inl (c 0, 200, .inl x_letters))]) (x_goV (As := [.ref (ev (10 + 5))]) (rest := []) ⟨hx, hb, hml, hown, hts⟩ (mX6_isWord l D c a_this a_letters a_facts a_room ev H.size x_length x_clauses 5 x_end x_start x_letters n _ hc3 (by decide)) (cwV 1 hts gX6_kindOfWord_X6_isWord rfl rfl rfl (by decide +kernel) ⟨Nat.le_of_ble_eq_true rfl, Nat.le_of_ble_eq_true rfl⟩) xV_b hP hD hK [0, 1] rfl (by decide) (fun U hU hW => xV_call hV hS (va_free hD hS hA [0, 1] rfl) hU hW) 0 6 rfl rfl rfl rfl hl.1 rfl (Nat.le_of_ble_eq_true rfl) dX6_kindOfWord_14) hP hD hS hA [0, 1] [] [0, 1] rfl rfl rfl ⟨by decide, by decide, by decide⟩ (fun H locs hP hD hS => ?_)
    refine lv_if_eq (tgt := 22) hx hb dX6_kindOfWord_17 (by decide) (fun c_4 => ?_) (fun c_4 => ?_)
    · have hr := x_ift hr c_4
      refine lv_aload_n hx hb dX6_kindOfWord_22 rfl (lv_at hl 0 rfl) ?_
      refine va_ldcS hx hb hown hs_6 dX6_kindOfWord_23 ?_
      obtain ⟨q5_0, hc5, hr⟩ := x_bind hr
      refine x_runi (wr := []) (wf := [(a_this, .inr (6, [.ref a_letters, .int x_length, .int x_start, .int x_end, .int x_clauses, .ref a_facts, .ref a_room])), (a_letters, .inl (c 0, 200, .inl x_letters))]) (x_goV (As := [.ref (ev (10 + 6))]) (rest := []) ⟨hx, hb, hml, hown, hts⟩ (mX6_isWord l D c a_this a_letters a_facts a_room ev H.size x_length x_clauses 6 x_end x_start x_letters n _ hc5 (by decide)) (cwV 1 hts gX6_kindOfWord_X6_isWord rfl rfl rfl (by decide +kernel) ⟨Nat.le_of_ble_eq_true rfl, Nat.le_of_ble_eq_true rfl⟩) xV_b hP hD hK [0, 1] rfl (by decide) (fun U hU hW => xV_call hV hS (va_free hD hS hA [0, 1] rfl) hU hW) 0 6 rfl rfl rfl rfl hl.1 rfl (Nat.le_of_ble_eq_true rfl) dX6_kindOfWord_25) hP hD hS hA [0, 1] [] [0, 1] rfl rfl rfl ⟨by decide, by decide, by decide⟩ (fun H locs hP hD hS => ?_)
      refine lv_if_eq (tgt := 33) hx hb dX6_kindOfWord_28 (by decide) (fun c_6 => ?_) (fun c_6 => ?_)
      · have hr := x_ift hr c_6
        refine lv_aload_n hx hb dX6_kindOfWord_33 rfl (lv_at hl 0 rfl) ?_
        refine va_ldcS hx hb hown hs_7 dX6_kindOfWord_34 ?_
        obtain ⟨q7_0, hc7, hr⟩ := x_bind hr
        refine x_runi (wr := []) (wf := [(a_this, .inr (6, [.ref a_letters, .int x_length, .int x_start, .int x_end, .int x_clauses, .ref a_facts, .ref a_room])), (a_letters, .inl (c 0, 200, .inl x_letters))]) (x_goV (As := [.ref (ev (10 + 7))]) (rest := []) ⟨hx, hb, hml, hown, hts⟩ (mX6_isWord l D c a_this a_letters a_facts a_room ev H.size x_length x_clauses 7 x_end x_start x_letters n _ hc7 (by decide)) (cwV 1 hts gX6_kindOfWord_X6_isWord rfl rfl rfl (by decide +kernel) ⟨Nat.le_of_ble_eq_true rfl, Nat.le_of_ble_eq_true rfl⟩) xV_b hP hD hK [0, 1] rfl (by decide) (fun U hU hW => xV_call hV hS (va_free hD hS hA [0, 1] rfl) hU hW) 0 6 rfl rfl rfl rfl hl.1 rfl (Nat.le_of_ble_eq_true rfl) dX6_kindOfWord_36) hP hD hS hA [0, 1] [] [0, 1] rfl rfl rfl ⟨by decide, by decide, by decide⟩ (fun H locs hP hD hS => ?_)
        refine lv_if_eq (tgt := 44) hx hb dX6_kindOfWord_39 (by decide) (fun c_8 => ?_) (fun c_8 => ?_)
        · have hr := x_ift hr c_8
          refine lv_aload_n hx hb dX6_kindOfWord_44 rfl (lv_at hl 0 rfl) ?_
          refine va_ldcS hx hb hown hs_8 dX6_kindOfWord_45 ?_
          obtain ⟨q9_0, hc9, hr⟩ := x_bind hr
          refine x_runi (wr := []) (wf := [(a_this, .inr (6, [.ref a_letters, .int x_length, .int x_start, .int x_end, .int x_clauses, .ref a_facts, .ref a_room])), (a_letters, .inl (c 0, 200, .inl x_letters))]) (x_goV (As := [.ref (ev (10 + 8))]) (rest := []) ⟨hx, hb, hml, hown, hts⟩ (mX6_isWord l D c a_this a_letters a_facts a_room ev H.size x_length x_clauses 8 x_end x_start x_letters n _ hc9 (by decide)) (cwV 1 hts gX6_kindOfWord_X6_isWord rfl rfl rfl (by decide +kernel) ⟨Nat.le_of_ble_eq_true rfl, Nat.le_of_ble_eq_true rfl⟩) xV_b hP hD hK [0, 1] rfl (by decide) (fun U hU hW => xV_call hV hS (va_free hD hS hA [0, 1] rfl) hU hW) 0 6 rfl rfl rfl rfl hl.1 rfl (Nat.le_of_ble_eq_true rfl) dX6_kindOfWord_47) hP hD hS hA [0, 1] [] [0, 1] rfl rfl rfl ⟨by decide, by decide, by decide⟩ (fun H locs hP hD hS => ?_)
          refine lv_if_eq (tgt := 57) hx hb dX6_kindOfWord_50 (by decide) (fun c_10 => ?_) (fun c_10 => ?_)
          · have hr := x_ift hr c_10
            refine lv_iconst (v := (-1)) hx hb dX6_kindOfWord_57 (by decide) ?_
            exact kX6_kindOfWord_58 E0 a_this a_letters a_facts a_room ev x_length x_clauses x_end x_start x_letters n r_ret hV (-1) hr H locs ls hP hD hS (lv_sub hl [] rfl)
          · have hr := x_iff hr c_10
            refine lv_iconst (v := 4) hx hb dX6_kindOfWord_53 (by decide) ?_
            refine lv_goto (tgt := 58) hx hb dX6_kindOfWord_54 (by decide) ?_
            exact kX6_kindOfWord_58 E0 a_this a_letters a_facts a_room ev x_length x_clauses x_end x_start x_letters n r_ret hV 4 hr H locs ls hP hD hS (lv_sub hl [] rfl)
        · have hr := x_iff hr c_8
          refine lv_iconst (v := 3) hx hb dX6_kindOfWord_42 (by decide) ?_
          have e0 := x_some hr
          subst e0
          exact x_reti hx hb hret hlocks hP hD hK hS dX6_kindOfWord_43
      · have hr := x_iff hr c_6
        refine lv_iconst (v := 2) hx hb dX6_kindOfWord_31 (by decide) ?_
        have e0 := x_some hr
        subst e0
        exact x_reti hx hb hret hlocks hP hD hK hS dX6_kindOfWord_32
    · have hr := x_iff hr c_4
      refine lv_iconst (v := 1) hx hb dX6_kindOfWord_20 (by decide) ?_
      have e0 := x_some hr
      subst e0
      exact x_reti hx hb hret hlocks hP hD hK hS dX6_kindOfWord_21
  · have hr := x_iff hr c_2
    refine lv_iconst (v := 0) hx hb dX6_kindOfWord_9 (by decide) ?_
    have e0 := x_some hr
    subst e0
    exact x_reti hx hb hret hlocks hP hD hK hS dX6_kindOfWord_10
set_option maxHeartbeats 4000000 in
set_option maxRecDepth 100000 in
theorem mX6_kindOfWord (l : Launch) (D : va_G) (c : Nat → ClassId) (a_this : Nat) (a_letters : Nat) (a_facts : Nat) (a_room : Nat) (ev : Nat → Nat) (sz : Nat) (x_length : Int32) (x_clauses : Int32) (x_end : Int32) (x_start : Int32) (x_letters : Nat → Int32) (n : Nat) (r_ret : Int32) (h : fX6_kindOfWord n x_end x_start x_letters = some (r_ret)) : Met l yX6_kindOfWord wsX6_kindOfWord ({ frames := 10, cells := 0, slots := 0, locals := 283 } : Room) (xPc D (xT c) sz [.ref a_this] (wX6_kindOfWord c a_this a_letters a_facts a_room ev x_length x_clauses x_end x_start x_letters) (xV ev (va_A (wX6_kindOfWord c a_this a_letters a_facts a_room ev x_length x_clauses x_end x_start x_letters) sz))) (xQi D (xT c) (va_A (wX6_kindOfWord c a_this a_letters a_facts a_room ev x_length x_clauses x_end x_start x_letters) sz) r_ret (wX6_kindOfWord c a_this a_letters a_facts a_room ev x_length x_clauses x_end x_start x_letters)) 0 0 (va_A (wX6_kindOfWord c a_this a_letters a_facts a_room ev x_length x_clauses x_end x_start x_letters) sz) := by
  refine Met.ofW (cc := cX6_kindOfWord) (maxL := 1) (ret := (some .int)) (by decide) rfl ?_
  intro p e s m args below meth cd s₁ B hml hv
  obtain ⟨rfl, hsz, hP, hK, hD0, hV⟩ := hv
  subst hsz
  have hl := lv_entry [.ref a_this] (n := 1) (Nat.le_of_ble_eq_true rfl)
  rw [lg_entry_eq]
  exact kX6_kindOfWord_0 (A := va_A (wX6_kindOfWord c a_this a_letters a_facts a_room ev x_length x_clauses x_end x_start x_letters) s.heap.size) ⟨B.exec, B.bytes, hml, B.returns, findClass_of_methodNamed B.named, atoms_spec (ws := wsX6_kindOfWord) B.pre, B.notSynchronized, fun q h => Or.inr h, hK⟩ a_this a_letters a_facts a_room ev x_length x_clauses x_end x_start x_letters n r_ret hV h s.heap [] _ hP hD0.self va_S.rf hl

abbrev wX6_takeLeech (c : Nat → ClassId) (a_this : Nat) (a_letters : Nat) (a_facts : Nat) (a_room : Nat) (a_room_knows : Nat) (a_room_kind : Nat) (a_room_on : Nat) (a_room_has : Nat) (ev : Nat → Nat) (x_clauses : Int32) (x_room_members : Int32) (x_room_basin : Int32) (x_room_minute : Int32) (x_letters : Nat → Int32) (x_length : Int32) (x_room_kind : Nat → Int32) (x_room_on : Nat → Int32) (x_room_has : Nat → Int32) (x_room_leeches : Int32) (x_start : Int32) (x_end : Int32) : va_W := [(a_this, .inr (6, [.ref a_letters, .int x_length, .int x_start, .int x_end, .int x_clauses, .ref a_facts, .ref a_room])), (a_letters, .inl (c 0, 200, .inl x_letters)), (a_room, .inr (3, [.int x_room_members, .int x_room_leeches, .int x_room_basin, .int x_room_minute, .ref a_room_knows, .ref a_room_kind, .ref a_room_on, .ref a_room_has])), (a_room_kind, .inl (c 0, 5, .inl x_room_kind)), (a_room_on, .inl (c 0, 5, .inl x_room_on)), (a_room_has, .inl (c 0, 5, .inl x_room_has))]
def GX6_takeLeech (p : Program) (l : Launch) (e : Env) (s : State) (m : MethodId) (args : Array Value) (below : List Frame) (meth : Method) (cd : Code) (D : va_G) (c : Nat → ClassId) (A : Nat → Prop) (a_this : Nat) (a_letters : Nat) (a_facts : Nat) (a_room : Nat) (a_room_knows : Nat) (a_room_kind : Nat) (a_room_on : Nat) (a_room_has : Nat) (ev : Nat → Nat) (x_clauses : Int32) (x_room_members : Int32) (x_room_basin : Int32) (x_room_minute : Int32) (x_letters : Nat → Int32) (x_length : Int32) (r_ret : Int32) (rm_room_kind : Nat → Int32) (rm_room_on : Nat → Int32) (rm_room_has : Nat → Int32) (rm_room_leeches : Int32) (rm_start : Int32) (rm_end : Int32) (pc : Nat) (st : List Value) (loc : List (Nat × Value)) (x_room_kind : Nat → Int32) (x_room_on : Nat → Int32) (x_room_has : Nat → Int32) (x_room_leeches : Int32) (x_start : Int32) (x_end : Int32) : Prop :=
  ∀ (H : Heap) (locs : List Loc) (ls : Array Slot), va_P D vwCl (wX6_takeLeech c a_this a_letters a_facts a_room a_room_knows a_room_kind a_room_on a_room_has ev x_clauses x_room_members x_room_basin x_room_minute x_letters x_length x_room_kind x_room_on x_room_has x_room_leeches x_start x_end) H → va_D A (wX6_takeLeech c a_this a_letters a_facts a_room a_room_knows a_room_kind a_room_on a_room_has ev x_clauses x_room_members x_room_basin x_room_minute x_letters x_length x_room_kind x_room_on x_room_has x_room_leeches x_start x_end) → va_S A s.heap H locs → lv_has ls 2 loc → W p l e ({ frames := 11, cells := 0, slots := 0, locals := 303 } : Room) s m args below meth cd H locs 0 0 (MQ below (xQi D (xT c) A r_ret (wX6_takeLeech c a_this a_letters a_facts a_room a_room_knows a_room_kind a_room_on a_room_has ev x_clauses x_room_members x_room_basin x_room_minute x_letters x_length rm_room_kind rm_room_on rm_room_has rm_room_leeches rm_start rm_end)) args s 0 0 A) (F0 m pc ls st)
theorem lkX6_takeLeech_f122 : Cond.fieldLink RX6 122 "LeechClub$Room" "leeches" "I" ∈ wsX6_takeLeech := by decide +kernel
theorem lkX6_takeLeech_f25 : Cond.fieldLink RX6 25 "LeechClub$Text" "room" "LLeechClub$Room;" ∈ wsX6_takeLeech := by decide +kernel
theorem inX6_takeLeech_X3 : ∀ w ∈ wsX30, w ∈ wsX6_takeLeech := by decide +kernel
theorem inX6_takeLeech_X6 : ∀ w ∈ wsX60, w ∈ wsX6_takeLeech := by decide +kernel
set_option maxHeartbeats 4000000 in
set_option maxRecDepth 100000 in
theorem kX6_takeLeech_21 {p : Program} {l : Launch} {e : Env} {s : State} {m : MethodId} {args : Array Value} {below : List Frame} {meth : Method} {cd : Code} {D : va_G} {c : Nat → ClassId} {A : Nat → Prop} (E0 : xE p s m args meth cd D (xT c) A RX6 cX6_takeLeech 2 (some .boolean) wsX6_takeLeech) (a_this : Nat) (a_letters : Nat) (a_facts : Nat) (a_room : Nat) (a_room_knows : Nat) (a_room_kind : Nat) (a_room_on : Nat) (a_room_has : Nat) (ev : Nat → Nat) (x_clauses : Int32) (x_room_members : Int32) (x_room_basin : Int32) (x_room_minute : Int32) (x_letters : Nat → Int32) (x_length : Int32) (n : Nat) (r_ret : Int32) (rm_room_kind : Nat → Int32) (rm_room_on : Nat → Int32) (rm_room_has : Nat → Int32) (rm_room_leeches : Int32) (rm_start : Int32) (rm_end : Int32) (hV : xV ev A s) (x_room_kind : Nat → Int32) (x_room_on : Nat → Int32) (x_room_has : Nat → Int32) (x_room_leeches : Int32) (x_start : Int32) (x_end : Int32) (hr : fX6_takeLeech_21 n x_letters x_length x_room_kind x_room_on x_room_has x_room_leeches x_start x_end = some (r_ret, rm_room_kind, rm_room_on, rm_room_has, rm_room_leeches, rm_start, rm_end)) : GX6_takeLeech p l e s m args below meth cd D c A a_this a_letters a_facts a_room a_room_knows a_room_kind a_room_on a_room_has ev x_clauses x_room_members x_room_basin x_room_minute x_letters x_length r_ret rm_room_kind rm_room_on rm_room_has rm_room_leeches rm_start rm_end 21 [] [] x_room_kind x_room_on x_room_has x_room_leeches x_start x_end := by
  have E1 := E0
  obtain ⟨hx, hb, hml, hret, hown, hts, hlocks, hA, hK⟩ := E1
  have hVV := hV
  obtain ⟨hn_RX7_9, hn_RX6_17, hn_RX6_24, hn_RX7_18, hn_RX7_25, hn_RX7_45, hn_RX7_52, hn_RX7_65, hn_RX7_70, hn_RX0_31, hn_RX3_53, hn_RX2_57, hn_RX3_65, hn_RX3_86, hz_TAKES, ht_TAKES, hz_HAS_ROOM, ht_HAS_ROOM, hz_SUCH, ht_SUCH, hz_FIRST_FIGURE, ht_FIRST_FIGURE, hz_compact, hz_sioobe, ho_Room, ho_Slate, ho_grid, hstr, hs_0, hs_1, hs_2, hs_3, hs_4, hs_5, hs_6, hs_7, hs_8⟩ := hVV
  intro H locs ls hP hD hS hl
  unfold fX6_takeLeech_21 at hr
  refine lv_iconst (v := 0) hx hb dX6_takeLeech_21 (by decide) ?_
  have g0 := x_some hr
  have e0 := x_p1 g0
  have g1 := x_p2 g0
  have e1 := x_p1 g1
  have g2 := x_p2 g1
  have e2 := x_p1 g2
  have g3 := x_p2 g2
  have e3 := x_p1 g3
  have g4 := x_p2 g3
  have e4 := x_p1 g4
  have g5 := x_p2 g4
  have e5 := x_p1 g5
  have e6 := x_p2 g5
  subst e0
  subst e1
  subst e2
  subst e3
  subst e4
  subst e5
  subst e6
  exact x_retz hx hb hret rfl hlocks hP hD hK hS dX6_takeLeech_22
set_option maxHeartbeats 4000000 in
set_option maxRecDepth 100000 in
theorem kX6_takeLeech_0 {p : Program} {l : Launch} {e : Env} {s : State} {m : MethodId} {args : Array Value} {below : List Frame} {meth : Method} {cd : Code} {D : va_G} {c : Nat → ClassId} {A : Nat → Prop} (E0 : xE p s m args meth cd D (xT c) A RX6 cX6_takeLeech 2 (some .boolean) wsX6_takeLeech) (a_this : Nat) (a_letters : Nat) (a_facts : Nat) (a_room : Nat) (a_room_knows : Nat) (a_room_kind : Nat) (a_room_on : Nat) (a_room_has : Nat) (ev : Nat → Nat) (x_clauses : Int32) (x_room_members : Int32) (x_room_basin : Int32) (x_room_minute : Int32) (x_letters : Nat → Int32) (x_length : Int32) (n : Nat) (r_ret : Int32) (rm_room_kind : Nat → Int32) (rm_room_on : Nat → Int32) (rm_room_has : Nat → Int32) (rm_room_leeches : Int32) (rm_start : Int32) (rm_end : Int32) (hV : xV ev A s) (x_room_kind : Nat → Int32) (x_room_on : Nat → Int32) (x_room_has : Nat → Int32) (x_room_leeches : Int32) (x_start : Int32) (x_end : Int32) (hr : fX6_takeLeech n x_letters x_length x_room_kind x_room_on x_room_has x_room_leeches x_start x_end = some (r_ret, rm_room_kind, rm_room_on, rm_room_has, rm_room_leeches, rm_start, rm_end)) : GX6_takeLeech p l e s m args below meth cd D c A a_this a_letters a_facts a_room a_room_knows a_room_kind a_room_on a_room_has ev x_clauses x_room_members x_room_basin x_room_minute x_letters x_length r_ret rm_room_kind rm_room_on rm_room_has rm_room_leeches rm_start rm_end 0 [] [(0, .ref a_this)] x_room_kind x_room_on x_room_has x_room_leeches x_start x_end := by
  have E1 := E0
  obtain ⟨hx, hb, hml, hret, hown, hts, hlocks, hA, hK⟩ := E1
  have hVV := hV
  obtain ⟨hn_RX7_9, hn_RX6_17, hn_RX6_24, hn_RX7_18, hn_RX7_25, hn_RX7_45, hn_RX7_52, hn_RX7_65, hn_RX7_70, hn_RX0_31, hn_RX3_53, hn_RX2_57, hn_RX3_65, hn_RX3_86, hz_TAKES, ht_TAKES, hz_HAS_ROOM, ht_HAS_ROOM, hz_SUCH, ht_SUCH, hz_FIRST_FIGURE, ht_FIRST_FIGURE, hz_compact, hz_sioobe, ho_Room, ho_Slate, ho_grid, hstr, hs_0, hs_1, hs_2, hs_3, hs_4, hs_5, hs_6, hs_7, hs_8⟩ := hVV
  intro H locs ls hP hD hS hl
  unfold fX6_takeLeech at hr
  refine lv_aload_n hx hb dX6_takeLeech_0 rfl (lv_at hl 0 rfl) ?_
  obtain ⟨q1_0, hc1, hr⟩ := x_bind hr
  refine x_runi (wr := [(a_room, .inr (3, [.int x_room_members, .int x_room_leeches, .int x_room_basin, .int x_room_minute, .ref a_room_knows, .ref a_room_kind, .ref a_room_on, .ref a_room_has])), (a_room_kind, .inl (c 0, 5, .inl x_room_kind)), (a_room_on, .inl (c 0, 5, .inl x_room_on)), (a_room_has, .inl (c 0, 5, .inl x_room_has))]) (wf := [(a_this, .inr (6, [.ref a_letters, .int x_length, .int x_start, .int x_end, .int x_clauses, .ref a_facts, .ref a_room])), (a_letters, .inl (c 0, 200, .inl x_letters)), (a_room, .inr (3, [.int x_room_members, .int x_room_leeches, .int x_room_basin, .int x_room_minute, .ref a_room_knows, .ref a_room_kind, .ref a_room_on, .ref a_room_has])), (a_room_kind, .inl (c 0, 5, .inl x_room_kind)), (a_room_on, .inl (c 0, 5, .inl x_room_on)), (a_room_has, .inl (c 0, 5, .inl x_room_has))]) (x_goV (As := []) (rest := []) ⟨hx, hb, hml, hown, hts⟩ (mX6_kindOfWord l D c a_this a_letters a_facts a_room ev H.size x_length x_clauses x_end x_start x_letters n _ hc1) (cwV 0 hts gX6_takeLeech_X6_kindOfWord rfl rfl rfl (by decide +kernel) ⟨Nat.le_of_ble_eq_true rfl, Nat.le_of_ble_eq_true rfl⟩) xV_b hP hD hK [0, 1] rfl (by decide) (fun U hU hW => xV_call hV hS (va_free hD hS hA [0, 1] rfl) hU hW) 0 6 rfl rfl rfl rfl hl.1 rfl (Nat.le_of_ble_eq_true rfl) dX6_takeLeech_1) hP hD hS hA [0, 1] [2, 3, 4, 5] [4, 5, 0, 1, 2, 3] rfl rfl rfl ⟨by decide, by decide, by decide⟩ (fun H locs hP hD hS => ?_)
  refine lv_istore_n (lv' := [(1, .int q1_0), (0, .ref a_this)]) hx hb dX6_takeLeech_4 rfl hl (by decide) rfl (fun ls hl => ?_)
  refine lv_iload_n hx hb dX6_takeLeech_5 rfl (lv_at hl 0 rfl) ?_
  refine lv_iconst (v := (-1)) hx hb dX6_takeLeech_6 (by decide) ?_
  refine lv_icmp_eq (tgt := 21) hx hb dX6_takeLeech_7 (by decide) (fun c_2 => ?_) (fun c_2 => ?_)
  · have hr := x_ift hr c_2
    exact kX6_takeLeech_21 E0 a_this a_letters a_facts a_room a_room_knows a_room_kind a_room_on a_room_has ev x_clauses x_room_members x_room_basin x_room_minute x_letters x_length n r_ret rm_room_kind rm_room_on rm_room_has rm_room_leeches rm_start rm_end hV x_room_kind x_room_on x_room_has x_room_leeches x_start x_end hr H locs ls hP hD hS (lv_sub hl [] rfl)
  · have hr := x_iff hr c_2
    refine lv_aload_n hx hb dX6_takeLeech_10 rfl (lv_at hl 1 rfl) ?_
    refine va_get (D := D) (ci := 6) (v := .ref a_room) (C := RX6) (T := TX6) (N := 7) hx hb hts inX6_takeLeech_X6 hown hK hP 0 rfl rfl 6 (by decide) (hts _ lkX6_takeLeech_f25) (fun _ h9 => h9) rfl dX6_takeLeech_11 ?_
    refine va_get (D := D) (ci := 3) (v := .int x_room_leeches) (C := RX3) (T := TX3) (N := 8) hx hb hts inX6_takeLeech_X3 hown hK hP 2 rfl rfl 1 (by decide) (hts _ lkX6_takeLeech_f122) (fun _ h9 => h9) rfl dX6_takeLeech_14 ?_
    refine lv_iconst (v := 5) hx hb dX6_takeLeech_17 (by decide) ?_
    refine lv_icmp_ne (tgt := 23) hx hb dX6_takeLeech_18 (by decide) (fun c_3 => ?_) (fun c_3 => ?_)
    · have hr := x_iff hr c_3
      refine lv_aload_n hx hb dX6_takeLeech_23 rfl (lv_at hl 1 rfl) ?_
      refine va_get (D := D) (ci := 6) (v := .ref a_room) (C := RX6) (T := TX6) (N := 7) hx hb hts inX6_takeLeech_X6 hown hK hP 0 rfl rfl 6 (by decide) (hts _ lkX6_takeLeech_f25) (fun _ h9 => h9) rfl dX6_takeLeech_24 ?_
      refine lv_iload_n hx hb dX6_takeLeech_27 rfl (lv_at hl 0 rfl) ?_
      obtain ⟨⟨q4_0, q4_1, q4_2, q4_3⟩, hc4, hr⟩ := x_bind hr
      try dsimp only at hr
      refine x_runv (wr := [(a_this, .inr (6, [.ref a_letters, .int x_length, .int x_start, .int x_end, .int x_clauses, .ref a_facts, .ref a_room])), (a_letters, .inl (c 0, 200, .inl x_letters))]) (wf := [(a_this, .inr (6, [.ref a_letters, .int x_length, .int x_start, .int x_end, .int x_clauses, .ref a_facts, .ref a_room])), (a_letters, .inl (c 0, 200, .inl x_letters)), (a_room, .inr (3, [.int x_room_members, .int q4_3, .int x_room_basin, .int x_room_minute, .ref a_room_knows, .ref a_room_kind, .ref a_room_on, .ref a_room_has])), (a_room_kind, .inl (c 0, 5, .inl q4_0)), (a_room_on, .inl (c 0, 5, .inl q4_1)), (a_room_has, .inl (c 0, 5, .inl q4_2))]) (x_goV (As := [.int q1_0]) (rest := []) ⟨hx, hb, hml, hown, hts⟩ (mX3_addLeech l D c a_room a_room_knows a_room_kind a_room_on a_room_has H.size x_room_members x_room_basin x_room_minute x_room_kind x_room_on x_room_has x_room_leeches q1_0 n _ _ _ _ hc4) (cwV 1 hts gX6_takeLeech_X3_addLeech rfl rfl rfl (by decide +kernel) ⟨Nat.le_of_ble_eq_true rfl, Nat.le_of_ble_eq_true rfl⟩) xB_t hP hD hK [2, 3, 4, 5] rfl (by decide) (fun _ _ _ => trivial) 2 3 rfl rfl rfl rfl hl.1 rfl (Nat.le_of_ble_eq_true rfl) dX6_takeLeech_28) hP hD hS hA [2, 3, 4, 5] [0, 1] [0, 1, 2, 3, 4, 5] rfl rfl rfl ⟨by decide, by decide, by decide⟩ (fun H locs hP hD hS => ?_)
      refine lv_aload_n hx hb dX6_takeLeech_31 rfl (lv_at hl 1 rfl) ?_
      obtain ⟨⟨q5_0, q5_1⟩, hc5, hr⟩ := x_bind hr
      try dsimp only at hr
      refine x_runv (wr := [(a_room, .inr (3, [.int x_room_members, .int q4_3, .int x_room_basin, .int x_room_minute, .ref a_room_knows, .ref a_room_kind, .ref a_room_on, .ref a_room_has])), (a_room_kind, .inl (c 0, 5, .inl q4_0)), (a_room_on, .inl (c 0, 5, .inl q4_1)), (a_room_has, .inl (c 0, 5, .inl q4_2))]) (wf := [(a_this, .inr (6, [.ref a_letters, .int x_length, .int q5_0, .int q5_1, .int x_clauses, .ref a_facts, .ref a_room])), (a_letters, .inl (c 0, 200, .inl x_letters)), (a_room, .inr (3, [.int x_room_members, .int q4_3, .int x_room_basin, .int x_room_minute, .ref a_room_knows, .ref a_room_kind, .ref a_room_on, .ref a_room_has])), (a_room_kind, .inl (c 0, 5, .inl q4_0)), (a_room_on, .inl (c 0, 5, .inl q4_1)), (a_room_has, .inl (c 0, 5, .inl q4_2))]) (x_goV (As := []) (rest := []) ⟨hx, hb, hml, hown, hts⟩ (mX6_step l D c a_this a_letters a_facts a_room H.size x_clauses x_length x_letters x_start x_end n _ _ hc5) (cwV 0 hts gX6_takeLeech_X6_step rfl rfl rfl (by decide +kernel) ⟨Nat.le_of_ble_eq_true rfl, Nat.le_of_ble_eq_true rfl⟩) xB_t hP hD hK [0, 1] rfl (by decide) (fun _ _ _ => trivial) 0 6 rfl rfl rfl rfl hl.1 rfl (Nat.le_of_ble_eq_true rfl) dX6_takeLeech_32) hP hD hS hA [0, 1] [2, 3, 4, 5] [4, 5, 0, 1, 2, 3] rfl rfl rfl ⟨by decide, by decide, by decide⟩ (fun H locs hP hD hS => ?_)
      refine lv_iconst (v := 1) hx hb dX6_takeLeech_35 (by decide) ?_
      have g0 := x_some hr
      have e0 := x_p1 g0
      have g1 := x_p2 g0
      have e1 := x_p1 g1
      have g2 := x_p2 g1
      have e2 := x_p1 g2
      have g3 := x_p2 g2
      have e3 := x_p1 g3
      have g4 := x_p2 g3
      have e4 := x_p1 g4
      have g5 := x_p2 g4
      have e5 := x_p1 g5
      have e6 := x_p2 g5
      subst e0
      subst e1
      subst e2
      subst e3
      subst e4
      subst e5
      subst e6
      exact x_retz hx hb hret rfl hlocks hP hD hK hS dX6_takeLeech_36
    · have hr := x_ift hr c_3
      exact kX6_takeLeech_21 E0 a_this a_letters a_facts a_room a_room_knows a_room_kind a_room_on a_room_has ev x_clauses x_room_members x_room_basin x_room_minute x_letters x_length n r_ret rm_room_kind rm_room_on rm_room_has rm_room_leeches rm_start rm_end hV x_room_kind x_room_on x_room_has x_room_leeches x_start x_end hr H locs ls hP hD hS (lv_sub hl [] rfl)
set_option maxHeartbeats 4000000 in
set_option maxRecDepth 100000 in
theorem mX6_takeLeech (l : Launch) (D : va_G) (c : Nat → ClassId) (a_this : Nat) (a_letters : Nat) (a_facts : Nat) (a_room : Nat) (a_room_knows : Nat) (a_room_kind : Nat) (a_room_on : Nat) (a_room_has : Nat) (ev : Nat → Nat) (sz : Nat) (x_clauses : Int32) (x_room_members : Int32) (x_room_basin : Int32) (x_room_minute : Int32) (x_letters : Nat → Int32) (x_length : Int32) (x_room_kind : Nat → Int32) (x_room_on : Nat → Int32) (x_room_has : Nat → Int32) (x_room_leeches : Int32) (x_start : Int32) (x_end : Int32) (n : Nat) (r_ret : Int32) (rm_room_kind : Nat → Int32) (rm_room_on : Nat → Int32) (rm_room_has : Nat → Int32) (rm_room_leeches : Int32) (rm_start : Int32) (rm_end : Int32) (h : fX6_takeLeech n x_letters x_length x_room_kind x_room_on x_room_has x_room_leeches x_start x_end = some (r_ret, rm_room_kind, rm_room_on, rm_room_has, rm_room_leeches, rm_start, rm_end)) : Met l yX6_takeLeech wsX6_takeLeech ({ frames := 11, cells := 0, slots := 0, locals := 303 } : Room) (xPc D (xT c) sz [.ref a_this] (wX6_takeLeech c a_this a_letters a_facts a_room a_room_knows a_room_kind a_room_on a_room_has ev x_clauses x_room_members x_room_basin x_room_minute x_letters x_length x_room_kind x_room_on x_room_has x_room_leeches x_start x_end) (xV ev (va_A (wX6_takeLeech c a_this a_letters a_facts a_room a_room_knows a_room_kind a_room_on a_room_has ev x_clauses x_room_members x_room_basin x_room_minute x_letters x_length x_room_kind x_room_on x_room_has x_room_leeches x_start x_end) sz))) (xQi D (xT c) (va_A (wX6_takeLeech c a_this a_letters a_facts a_room a_room_knows a_room_kind a_room_on a_room_has ev x_clauses x_room_members x_room_basin x_room_minute x_letters x_length x_room_kind x_room_on x_room_has x_room_leeches x_start x_end) sz) r_ret (wX6_takeLeech c a_this a_letters a_facts a_room a_room_knows a_room_kind a_room_on a_room_has ev x_clauses x_room_members x_room_basin x_room_minute x_letters x_length rm_room_kind rm_room_on rm_room_has rm_room_leeches rm_start rm_end)) 0 0 (va_A (wX6_takeLeech c a_this a_letters a_facts a_room a_room_knows a_room_kind a_room_on a_room_has ev x_clauses x_room_members x_room_basin x_room_minute x_letters x_length x_room_kind x_room_on x_room_has x_room_leeches x_start x_end) sz) := by
  refine Met.ofW (cc := cX6_takeLeech) (maxL := 2) (ret := (some .boolean)) (by decide) rfl ?_
  intro p e s m args below meth cd s₁ B hml hv
  obtain ⟨rfl, hsz, hP, hK, hD0, hV⟩ := hv
  subst hsz
  have hl := lv_entry [.ref a_this] (n := 2) (Nat.le_of_ble_eq_true rfl)
  rw [lg_entry_eq]
  exact kX6_takeLeech_0 (A := va_A (wX6_takeLeech c a_this a_letters a_facts a_room a_room_knows a_room_kind a_room_on a_room_has ev x_clauses x_room_members x_room_basin x_room_minute x_letters x_length x_room_kind x_room_on x_room_has x_room_leeches x_start x_end) s.heap.size) ⟨B.exec, B.bytes, hml, B.returns, findClass_of_methodNamed B.named, atoms_spec (ws := wsX6_takeLeech) B.pre, B.notSynchronized, fun q h => Or.inr h, hK⟩ a_this a_letters a_facts a_room a_room_knows a_room_kind a_room_on a_room_has ev x_clauses x_room_members x_room_basin x_room_minute x_letters x_length n r_ret rm_room_kind rm_room_on rm_room_has rm_room_leeches rm_start rm_end hV x_room_kind x_room_on x_room_has x_room_leeches x_start x_end h s.heap [] _ hP hD0.self va_S.rf hl

