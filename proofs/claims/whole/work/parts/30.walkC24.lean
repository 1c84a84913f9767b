abbrev wX7_boy (c : Nat → ClassId) (a_this : Nat) (a_text : Nat) (a_facts : Nat) (a_told : Nat) (a_now : Nat) (a_trial : Nat) (a_past : Nat) (a_kept : Nat) (a_sightings : Nat) (a_plan : Nat) (a_slates : Nat) (a_reckoned : Nat) (a_facts_leans : Nat) (a_facts_all : Nat) (a_facts_lostWith : Nat) (a_now_knows : Nat) (a_now_kind : Nat) (a_now_on : Nat) (a_now_has : Nat) (x_undoable : Int32) (x_keptBits : Int32) (x_now_members : Int32) (x_now_leeches : Int32) (x_now_minute : Int32) (x_facts_size : Int32) (x_facts_all : Nat → Int32) (x_now_basin : Int32) : va_W := [(a_this, .inr (7, [.ref a_text, .ref a_facts, .ref a_told, .ref a_now, .ref a_trial, .ref a_past, .int x_undoable, .ref a_kept, .int x_keptBits, .ref a_sightings, .ref a_plan, .ref a_slates, .ref a_reckoned])), (a_facts, .inr (0, [.int x_facts_size, .ref a_facts_leans, .ref a_facts_all, .ref a_facts_lostWith])), (a_facts_all, .inl (c 0, 12, .inl x_facts_all)), (a_now, .inr (3, [.int x_now_members, .int x_now_leeches, .int x_now_basin, .int x_now_minute, .ref a_now_knows, .ref a_now_kind, .ref a_now_on, .ref a_now_has]))]
def GX7_boy (p : Program) (l : Launch) (e : Env) (s : State) (m : MethodId) (args : Array Value) (below : List Frame) (meth : Method) (cd : Code) (D : va_G) (c : Nat → ClassId) (A : Nat → Prop) (a_this : Nat) (a_text : Nat) (a_facts : Nat) (a_told : Nat) (a_now : Nat) (a_trial : Nat) (a_past : Nat) (a_kept : Nat) (a_sightings : Nat) (a_plan : Nat) (a_slates : Nat) (a_reckoned : Nat) (a_facts_leans : Nat) (a_facts_all : Nat) (a_facts_lostWith : Nat) (a_now_knows : Nat) (a_now_kind : Nat) (a_now_on : Nat) (a_now_has : Nat) (x_undoable : Int32) (x_keptBits : Int32) (x_now_members : Int32) (x_now_leeches : Int32) (x_now_minute : Int32) (x_facts_size : Int32) (x_facts_all : Nat → Int32) (x_now_basin : Int32) (r_ret : Int32) (pc : Nat) (st : List Value) (loc : List (Nat × Value)) : Prop :=
  ∀ (H : Heap) (locs : List Loc) (ls : Array Slot), va_P D vwCl (wX7_boy c a_this a_text a_facts a_told a_now a_trial a_past a_kept a_sightings a_plan a_slates a_reckoned a_facts_leans a_facts_all a_facts_lostWith a_now_knows a_now_kind a_now_on a_now_has x_undoable x_keptBits x_now_members x_now_leeches x_now_minute x_facts_size x_facts_all x_now_basin) H → va_D A (wX7_boy c a_this a_text a_facts a_told a_now a_trial a_past a_kept a_sightings a_plan a_slates a_reckoned a_facts_leans a_facts_all a_facts_lostWith a_now_knows a_now_kind a_now_on a_now_has x_undoable x_keptBits x_now_members x_now_leeches x_now_minute x_facts_size x_facts_all x_now_basin) → va_S A s.heap H locs → lv_has ls 3 loc → W p l e ({ frames := 0, cells := 0, slots := 0, locals := 0 } : Room) s m args below meth cd H locs 0 0 (MQ below (xQi D (xT c) A r_ret (wX7_boy c a_this a_text a_facts a_told a_now a_trial a_past a_kept a_sightings a_plan a_slates a_reckoned a_facts_leans a_facts_all a_facts_lostWith a_now_knows a_now_kind a_now_on a_now_has x_undoable x_keptBits x_now_members x_now_leeches x_now_minute x_facts_size x_facts_all x_now_basin)) args s 0 0 A) (F0 m pc ls st)
theorem lkX7_boy_f113 : Cond.fieldLink RX7 113 "LeechClub$Facts" "all" "[I" ∈ wsX7_boy := by decide +kernel
theorem lkX7_boy_f179 : Cond.fieldLink RX7 179 "LeechClub$Room" "basin" "I" ∈ wsX7_boy := by decide +kernel
theorem lkX7_boy_f187 : Cond.fieldLink RX7 187 "LeechClub$Facts" "size" "I" ∈ wsX7_boy := by decide +kernel
theorem lkX7_boy_f19 : Cond.fieldLink RX7 19 "LeechClub" "facts" "LLeechClub$Facts;" ∈ wsX7_boy := by decide +kernel
theorem lkX7_boy_f30 : Cond.fieldLink RX7 30 "LeechClub" "now" "LLeechClub$Room;" ∈ wsX7_boy := by decide +kernel
theorem inX7_boy_X7 : ∀ w ∈ wsX70, w ∈ wsX7_boy := by decide +kernel
theorem inX7_boy_X0 : ∀ w ∈ wsX00, w ∈ wsX7_boy := by decide +kernel
theorem inX7_boy_X3 : ∀ w ∈ wsX30, w ∈ wsX7_boy := by decide +kernel
set_option maxHeartbeats 4000000 in
set_option maxRecDepth 100000 in
theorem kX7_boy_43 {p : Program} {l : Launch} {e : Env} {s : State} {m : MethodId} {args : Array Value} {below : List Frame} {meth : Method} {cd : Code} {D : va_G} {c : Nat → ClassId} {A : Nat → Prop} (E0 : xE p s m args meth cd D (xT c) A RX7 cX7_boy 3 (some .int) wsX7_boy) (a_this : Nat) (a_text : Nat) (a_facts : Nat) (a_told : Nat) (a_now : Nat) (a_trial : Nat) (a_past : Nat) (a_kept : Nat) (a_sightings : Nat) (a_plan : Nat) (a_slates : Nat) (a_reckoned : Nat) (a_facts_leans : Nat) (a_facts_all : Nat) (a_facts_lostWith : Nat) (a_now_knows : Nat) (a_now_kind : Nat) (a_now_on : Nat) (a_now_has : Nat) (x_undoable : Int32) (x_keptBits : Int32) (x_now_members : Int32) (x_now_leeches : Int32) (x_now_minute : Int32) (x_facts_size : Int32) (x_facts_all : Nat → Int32) (x_now_basin : Int32) (n : Nat) (r_ret : Int32) (r_4 : Int32 → Int32 → Option (Int32)) (h_4 : ∀ (v1 : Int32) (v2 : Int32), r_4 v1 v2 = some (r_ret) → GX7_boy p l e s m args below meth cd D c A a_this a_text a_facts a_told a_now a_trial a_past a_kept a_sightings a_plan a_slates a_reckoned a_facts_leans a_facts_all a_facts_lostWith a_now_knows a_now_kind a_now_on a_now_has x_undoable x_keptBits x_now_members x_now_leeches x_now_minute x_facts_size x_facts_all x_now_basin r_ret 4 [] [(0, .ref a_this), (1, .int v1), (2, .int v2)]) (v1 : Int32) (v2 : Int32) (hr : fX7_boy_43 n r_4 x_facts_size x_facts_all x_now_basin v1 v2 = some (r_ret)) : GX7_boy p l e s m args below meth cd D c A a_this a_text a_facts a_told a_now a_trial a_past a_kept a_sightings a_plan a_slates a_reckoned a_facts_leans a_facts_all a_facts_lostWith a_now_knows a_now_kind a_now_on a_now_has x_undoable x_keptBits x_now_members x_now_leeches x_now_minute x_facts_size x_facts_all x_now_basin r_ret 43 [] [(0, .ref a_this), (1, .int v1), (2, .int v2)] := by
  have E1 := E0
  obtain ⟨hx, hb, hml, hret, hown, hts, hlocks, hA, hK⟩ := E1
  intro H locs ls hP hD hS hl
  unfold fX7_boy_43 at hr
  refine lv_iinc (v := v2 + 1) (lv' := [(2, .int (v2 + 1)), (0, .ref a_this), (1, .int v1)]) hx hb dX7_boy_43 hl (k := 2) rfl rfl (by decide) rfl (fun ls hl => ?_)
  refine lv_goto (tgt := 4) hx hb dX7_boy_46 (by decide) ?_
  exact h_4 v1 (v2 + 1) hr H locs ls hP hD hS (lv_sub hl [1, 2, 0] rfl)
set_option maxHeartbeats 4000000 in
set_option maxRecDepth 100000 in
theorem kX7_boy_4 {p : Program} {l : Launch} {e : Env} {s : State} {m : MethodId} {args : Array Value} {below : List Frame} {meth : Method} {cd : Code} {D : va_G} {c : Nat → ClassId} {A : Nat → Prop} (E0 : xE p s m args meth cd D (xT c) A RX7 cX7_boy 3 (some .int) wsX7_boy) (a_this : Nat) (a_text : Nat) (a_facts : Nat) (a_told : Nat) (a_now : Nat) (a_trial : Nat) (a_past : Nat) (a_kept : Nat) (a_sightings : Nat) (a_plan : Nat) (a_slates : Nat) (a_reckoned : Nat) (a_facts_leans : Nat) (a_facts_all : Nat) (a_facts_lostWith : Nat) (a_now_knows : Nat) (a_now_kind : Nat) (a_now_on : Nat) (a_now_has : Nat) (x_undoable : Int32) (x_keptBits : Int32) (x_now_members : Int32) (x_now_leeches : Int32) (x_now_minute : Int32) (x_facts_size : Int32) (x_facts_all : Nat → Int32) (x_now_basin : Int32) (n : Nat) (r_ret : Int32) : ∀ (k : Nat) (v1 : Int32) (v2 : Int32), fX7_boy_4 n x_facts_size x_facts_all x_now_basin k v1 v2 = some (r_ret) → GX7_boy p l e s m args below meth cd D c A a_this a_text a_facts a_told a_now a_trial a_past a_kept a_sightings a_plan a_slates a_reckoned a_facts_leans a_facts_all a_facts_lostWith a_now_knows a_now_kind a_now_on a_now_has x_undoable x_keptBits x_now_members x_now_leeches x_now_minute x_facts_size x_facts_all x_now_basin r_ret 4 [] [(0, .ref a_this), (1, .int v1), (2, .int v2)] := by
  have E1 := E0
  obtain ⟨hx, hb, hml, hret, hown, hts, hlocks, hA, hK⟩ := E1
  intro k
  induction k with
  | zero => intro v1 v2 hr; cases hr
  | succ k h_4 =>
    intro v1 v2 hr H locs ls hP hD hS hl
    unfold fX7_boy_4 at hr
    refine lv_iload_n hx hb dX7_boy_4 rfl (lv_at hl 2 rfl) ?_
    refine lv_aload_n hx hb dX7_boy_5 rfl (lv_at hl 0 rfl) ?_
    refine va_get (D := D) (ci := 7) (v := .ref a_facts) (C := RX7) (T := TX7) (N := 13) hx hb hts inX7_boy_X7 hown hK hP 0 rfl rfl 1 (by decide) (hts _ lkX7_boy_f19) (fun _ h9 => h9) rfl dX7_boy_6 ?_
    refine va_get (D := D) (ci := 0) (v := .int x_facts_size) (C := RX0) (T := TX0) (N := 4) hx hb hts inX7_boy_X0 hown hK hP 1 rfl rfl 0 (by decide) (hts _ lkX7_boy_f187) (fun _ h9 => h9) rfl dX7_boy_9 ?_
    refine lv_icmp_ge (tgt := 49) hx hb dX7_boy_12 (by decide) (fun c_1 => ?_) (fun c_1 => ?_)
    · have hr := x_ift hr c_1
      refine lv_iload_n hx hb dX7_boy_49 rfl (lv_at hl 1 rfl) ?_
      have e0 := x_some hr
      subst e0
      exact x_reti hx hb hret hlocks hP hD hK hS dX7_boy_50
    · have hr := x_iff hr c_1
      refine lv_aload_n hx hb dX7_boy_15 rfl (lv_at hl 0 rfl) ?_
      refine va_get (D := D) (ci := 7) (v := .ref a_facts) (C := RX7) (T := TX7) (N := 13) hx hb hts inX7_boy_X7 hown hK hP 0 rfl rfl 1 (by decide) (hts _ lkX7_boy_f19) (fun _ h9 => h9) rfl dX7_boy_16 ?_
      refine va_get (D := D) (ci := 0) (v := .ref a_facts_all) (C := RX0) (T := TX0) (N := 4) hx hb hts inX7_boy_X0 hown hK hP 1 rfl rfl 2 (by decide) (hts _ lkX7_boy_f113) (fun _ h9 => h9) rfl dX7_boy_19 ?_
      refine lv_iload_n hx hb dX7_boy_22 rfl (lv_at hl 2 rfl) ?_
      obtain ⟨b_2, hr⟩ := x_chk hr
      refine va_iald hx hb hK hP 2 0 rfl rfl b_2 dX7_boy_23 ?_
      refine lv_aload_n hx hb dX7_boy_24 rfl (lv_at hl 0 rfl) ?_
      refine va_get (D := D) (ci := 7) (v := .ref a_now) (C := RX7) (T := TX7) (N := 13) hx hb hts inX7_boy_X7 hown hK hP 0 rfl rfl 3 (by decide) (hts _ lkX7_boy_f30) (fun _ h9 => h9) rfl dX7_boy_25 ?_
      refine va_get (D := D) (ci := 3) (v := .int x_now_basin) (C := RX3) (T := TX3) (N := 8) hx hb hts inX7_boy_X3 hown hK hP 3 rfl rfl 2 (by decide) (hts _ lkX7_boy_f179) (fun _ h9 => h9) rfl dX7_boy_28 ?_
      refine lv_iconst (v := (-1)) hx hb dX7_boy_31 (by decide) ?_
      refine lv_ixor hx hb dX7_boy_32 ?_
      refine lv_iand hx hb dX7_boy_33 ?_
      refine lv_if_ne (tgt := 43) hx hb dX7_boy_34 (by decide) (fun c_3 => ?_) (fun c_3 => ?_)
      · have hr := x_iff hr c_3
        exact kX7_boy_43 E0 a_this a_text a_facts a_told a_now a_trial a_past a_kept a_sightings a_plan a_slates a_reckoned a_facts_leans a_facts_all a_facts_lostWith a_now_knows a_now_kind a_now_on a_now_has x_undoable x_keptBits x_now_members x_now_leeches x_now_minute x_facts_size x_facts_all x_now_basin n r_ret (fX7_boy_4 n x_facts_size x_facts_all x_now_basin k) h_4 v1 v2 hr H locs ls hP hD hS (lv_sub hl [0, 1, 2] rfl)
      · have hr := x_ift hr c_3
        refine lv_iload_n hx hb dX7_boy_37 rfl (lv_at hl 1 rfl) ?_
        refine lv_iconst (v := 1) hx hb dX7_boy_38 (by decide) ?_
        refine lv_iload_n hx hb dX7_boy_39 rfl (lv_at hl 2 rfl) ?_
        refine lv_ishl hx hb dX7_boy_40 ?_
        refine lv_ior hx hb dX7_boy_41 ?_
        refine lv_istore_n (lv' := [(1, .int (v1 ||| (1 <<< (v2 &&& 31)))), (0, .ref a_this), (2, .int v2)]) hx hb dX7_boy_42 rfl hl (by decide) rfl (fun ls hl => ?_)
        exact kX7_boy_43 E0 a_this a_text a_facts a_told a_now a_trial a_past a_kept a_sightings a_plan a_slates a_reckoned a_facts_leans a_facts_all a_facts_lostWith a_now_knows a_now_kind a_now_on a_now_has x_undoable x_keptBits x_now_members x_now_leeches x_now_minute x_facts_size x_facts_all x_now_basin n r_ret (fX7_boy_4 n x_facts_size x_facts_all x_now_basin k) h_4 (v1 ||| (1 <<< (v2 &&& 31))) v2 hr H locs ls hP hD hS (lv_sub hl [1, 0, 2] rfl)
set_option maxHeartbeats 4000000 in
set_option maxRecDepth 100000 in
theorem kX7_boy_0 {p : Program} {l : Launch} {e : Env} {s : State} {m : MethodId} {args : Array Value} {below : List Frame} {meth : Method} {cd : Code} {D : va_G} {c : Nat → ClassId} {A : Nat → Prop} (E0 : xE p s m args meth cd D (xT c) A RX7 cX7_boy 3 (some .int) wsX7_boy) (a_this : Nat) (a_text : Nat) (a_facts : Nat) (a_told : Nat) (a_now : Nat) (a_trial : Nat) (a_past : Nat) (a_kept : Nat) (a_sightings : Nat) (a_plan : Nat) (a_slates : Nat) (a_reckoned : Nat) (a_facts_leans : Nat) (a_facts_all : Nat) (a_facts_lostWith : Nat) (a_now_knows : Nat) (a_now_kind : Nat) (a_now_on : Nat) (a_now_has : Nat) (x_undoable : Int32) (x_keptBits : Int32) (x_now_members : Int32) (x_now_leeches : Int32) (x_now_minute : Int32) (x_facts_size : Int32) (x_facts_all : Nat → Int32) (x_now_basin : Int32) (n : Nat) (r_ret : Int32) (hr : fX7_boy n x_facts_size x_facts_all x_now_basin = some (r_ret)) : GX7_boy p l e s m args below meth cd D c A a_this a_text a_facts a_told a_now a_trial a_past a_kept a_sightings a_plan a_slates a_reckoned a_facts_leans a_facts_all a_facts_lostWith a_now_knows a_now_kind a_now_on a_now_has x_undoable x_keptBits x_now_members x_now_leeches x_now_minute x_facts_size x_facts_all x_now_basin r_ret 0 [] [(0, .ref a_this)] := by
  have E1 := E0
  obtain ⟨hx, hb, hml, hret, hown, hts, hlocks, hA, hK⟩ := E1
  intro H locs ls hP hD hS hl
  unfold fX7_boy at hr
  refine lv_iconst (v := 0) hx hb dX7_boy_0 (by decide) ?_
  refine lv_istore_n (lv' := [(1, .int 0), (0, .ref a_this)]) hx hb dX7_boy_1 rfl hl (by decide) rfl (fun ls hl => ?_)
  refine lv_iconst (v := 0) hx hb dX7_boy_2 (by decide) ?_
  refine lv_istore_n (lv' := [(2, .int 0), (1, .int 0), (0, .ref a_this)]) hx hb dX7_boy_3 rfl hl (by decide) rfl (fun ls hl => ?_)
  exact kX7_boy_4 E0 a_this a_text a_facts a_told a_now a_trial a_past a_kept a_sightings a_plan a_slates a_reckoned a_facts_leans a_facts_all a_facts_lostWith a_now_knows a_now_kind a_now_on a_now_has x_undoable x_keptBits x_now_members x_now_leeches x_now_minute x_facts_size x_facts_all x_now_basin n r_ret n 0 0 hr H locs ls hP hD hS (lv_sub hl [2, 1, 0] rfl)
set_option maxHeartbeats 4000000 in
set_option maxRecDepth 100000 in
theorem mX7_boy (l : Launch) (D : va_G) (c : Nat → ClassId) (a_this : Nat) (a_text : Nat) (a_facts : Nat) (a_told : Nat) (a_now : Nat) (a_trial : Nat) (a_past : Nat) (a_kept : Nat) (a_sightings : Nat) (a_plan : Nat) (a_slates : Nat) (a_reckoned : Nat) (a_facts_leans : Nat) (a_facts_all : Nat) (a_facts_lostWith : Nat) (a_now_knows : Nat) (a_now_kind : Nat) (a_now_on : Nat) (a_now_has : Nat) (sz : Nat) (x_undoable : Int32) (x_keptBits : Int32) (x_now_members : Int32) (x_now_leeches : Int32) (x_now_minute : Int32) (x_facts_size : Int32) (x_facts_all : Nat → Int32) (x_now_basin : Int32) (n : Nat) (r_ret : Int32) (h : fX7_boy n x_facts_size x_facts_all x_now_basin = some (r_ret)) : Met l yX7_boy wsX7_boy ({ frames := 0, cells := 0, slots := 0, locals := 0 } : Room) (xPc D (xT c) sz [.ref a_this] (wX7_boy c a_this a_text a_facts a_told a_now a_trial a_past a_kept a_sightings a_plan a_slates a_reckoned a_facts_leans a_facts_all a_facts_lostWith a_now_knows a_now_kind a_now_on a_now_has x_undoable x_keptBits x_now_members x_now_leeches x_now_minute x_facts_size x_facts_all x_now_basin) (fun _ => True)) (xQi D (xT c) (va_A (wX7_boy c a_this a_text a_facts a_told a_now a_trial a_past a_kept a_sightings a_plan a_slates a_reckoned a_facts_leans a_facts_all a_facts_lostWith a_now_knows a_now_kind a_now_on a_now_has x_undoable x_keptBits x_now_members x_now_leeches x_now_minute x_facts_size x_facts_all x_now_basin) sz) r_ret (wX7_boy c a_this a_text a_facts a_told a_now a_trial a_past a_kept a_sightings a_plan a_slates a_reckoned a_facts_leans a_facts_all a_facts_lostWith a_now_knows a_now_kind a_now_on a_now_has x_undoable x_keptBits x_now_members x_now_leeches x_now_minute x_facts_size x_facts_all x_now_basin)) 0 0 (va_A (wX7_boy c a_this a_text a_facts a_told a_now a_trial a_past a_kept a_sightings a_plan a_slates a_reckoned a_facts_leans a_facts_all a_facts_lostWith a_now_knows a_now_kind a_now_on a_now_has x_undoable x_keptBits x_now_members x_now_leeches x_now_minute x_facts_size x_facts_all x_now_basin) sz) := by
  refine Met.ofW (cc := cX7_boy) (maxL := 3) (ret := (some .int)) (by decide) rfl ?_
  intro p e s m args below meth cd s₁ B hml hv
  obtain ⟨rfl, hsz, hP, hK, hD0, hV⟩ := hv
  subst hsz
  have hl := lv_entry [.ref a_this] (n := 3) (Nat.le_of_ble_eq_true rfl)
  rw [lg_entry_eq]
  exact kX7_boy_0 (A := va_A (wX7_boy c a_this a_text a_facts a_told a_now a_trial a_past a_kept a_sightings a_plan a_slates a_reckoned a_facts_leans a_facts_all a_facts_lostWith a_now_knows a_now_kind a_now_on a_now_has x_undoable x_keptBits x_now_members x_now_leeches x_now_minute x_facts_size x_facts_all x_now_basin) s.heap.size) ⟨B.exec, B.bytes, hml, B.returns, findClass_of_methodNamed B.named, atoms_spec (ws := wsX7_boy) B.pre, B.notSynchronized, fun q h => Or.inr h, hK⟩ a_this a_text a_facts a_told a_now a_trial a_past a_kept a_sightings a_plan a_slates a_reckoned a_facts_leans a_facts_all a_facts_lostWith a_now_knows a_now_kind a_now_on a_now_has x_undoable x_keptBits x_now_members x_now_leeches x_now_minute x_facts_size x_facts_all x_now_basin n r_ret h s.heap [] _ hP hD0.self va_S.rf hl

abbrev wX7_isWanted (c : Nat → ClassId) : va_W := []
def GX7_isWanted (p : Program) (l : Launch) (e : Env) (s : State) (m : MethodId) (args : Array Value) (below : List Frame) (meth : Method) (cd : Code) (D : va_G) (c : Nat → ClassId) (A : Nat → Prop) (r_ret : Int32) (pc : Nat) (st : List Value) (loc : List (Nat × Value)) : Prop :=
  ∀ (H : Heap) (locs : List Loc) (ls : Array Slot), va_P D vwCl (wX7_isWanted c) H → va_D A (wX7_isWanted c) → va_S A s.heap H locs → lv_has ls 3 loc → W p l e ({ frames := 0, cells := 0, slots := 0, locals := 0 } : Room) s m args below meth cd H locs 0 0 (MQ below (xQi D (xT c) A r_ret (wX7_isWanted c)) args s 0 0 A) (F0 m pc ls st)
set_option maxHeartbeats 4000000 in
set_option maxRecDepth 100000 in
theorem kX7_isWanted_19 {p : Program} {l : Launch} {e : Env} {s : State} {m : MethodId} {args : Array Value} {below : List Frame} {meth : Method} {cd : Code} {D : va_G} {c : Nat → ClassId} {A : Nat → Prop} (E0 : xE p s m args meth cd D (xT c) A RX7 cX7_isWanted 3 (some .boolean) wsX7_isWanted) (n : Nat) (r_ret : Int32) (t0 : Int32) (hr : fX7_isWanted_19 n t0 = some (r_ret)) : GX7_isWanted p l e s m args below meth cd D c A r_ret 19 [.int t0] [] := by
  have E1 := E0
  obtain ⟨hx, hb, hml, hret, hown, hts, hlocks, hA, hK⟩ := E1
  intro H locs ls hP hD hS hl
  unfold fX7_isWanted_19 at hr
  obtain ⟨hz, hr⟩ := x_need hr
  have e0 := x_some hr
  subst e0
  exact x_retz hx hb hret (x_nz hz) hlocks hP hD hK hS dX7_isWanted_19
set_option maxHeartbeats 4000000 in
set_option maxRecDepth 100000 in
theorem kX7_isWanted_18 {p : Program} {l : Launch} {e : Env} {s : State} {m : MethodId} {args : Array Value} {below : List Frame} {meth : Method} {cd : Code} {D : va_G} {c : Nat → ClassId} {A : Nat → Prop} (E0 : xE p s m args meth cd D (xT c) A RX7 cX7_isWanted 3 (some .boolean) wsX7_isWanted) (n : Nat) (r_ret : Int32) (hr : fX7_isWanted_18 n = some (r_ret)) : GX7_isWanted p l e s m args below meth cd D c A r_ret 18 [] [] := by
  have E1 := E0
  obtain ⟨hx, hb, hml, hret, hown, hts, hlocks, hA, hK⟩ := E1
  intro H locs ls hP hD hS hl
  unfold fX7_isWanted_18 at hr
  refine lv_iconst (v := 0) hx hb dX7_isWanted_18 (by decide) ?_
  exact kX7_isWanted_19 E0 n r_ret 0 hr H locs ls hP hD hS (lv_sub hl [] rfl)
set_option maxHeartbeats 4000000 in
set_option maxRecDepth 100000 in
theorem kX7_isWanted_0 {p : Program} {l : Launch} {e : Env} {s : State} {m : MethodId} {args : Array Value} {below : List Frame} {meth : Method} {cd : Code} {D : va_G} {c : Nat → ClassId} {A : Nat → Prop} (E0 : xE p s m args meth cd D (xT c) A RX7 cX7_isWanted 3 (some .boolean) wsX7_isWanted) (n : Nat) (r_ret : Int32) (v0 : Int32) (v1 : Int32) (v2 : Int32) (hr : fX7_isWanted n v0 v1 v2 = some (r_ret)) : GX7_isWanted p l e s m args below meth cd D c A r_ret 0 [] [(0, .int v0), (1, .int v1), (2, .int v2)] := by
  have E1 := E0
  obtain ⟨hx, hb, hml, hret, hown, hts, hlocks, hA, hK⟩ := E1
  intro H locs ls hP hD hS hl
  unfold fX7_isWanted at hr
  refine lv_iload_n hx hb dX7_isWanted_0 rfl (lv_at hl 0 rfl) ?_
  refine lv_iload_n hx hb dX7_isWanted_1 rfl (lv_at hl 1 rfl) ?_
  refine lv_iand hx hb dX7_isWanted_2 ?_
  refine lv_if_ne (tgt := 18) hx hb dX7_isWanted_3 (by decide) (fun c_1 => ?_) (fun c_1 => ?_)
  · have hr := x_iff hr c_1
    exact kX7_isWanted_18 E0 n r_ret hr H locs ls hP hD hS (lv_sub hl [] rfl)
  · have hr := x_ift hr c_1
    refine lv_iload_n hx hb dX7_isWanted_6 rfl (lv_at hl 2 rfl) ?_
    refine lv_iload_n hx hb dX7_isWanted_7 rfl (lv_at hl 0 rfl) ?_
    refine lv_iconst (v := (-1)) hx hb dX7_isWanted_8 (by decide) ?_
    refine lv_ixor hx hb dX7_isWanted_9 ?_
    refine lv_iand hx hb dX7_isWanted_10 ?_
    refine lv_if_ne (tgt := 18) hx hb dX7_isWanted_11 (by decide) (fun c_2 => ?_) (fun c_2 => ?_)
    · have hr := x_iff hr c_2
      exact kX7_isWanted_18 E0 n r_ret hr H locs ls hP hD hS (lv_sub hl [] rfl)
    · have hr := x_ift hr c_2
      refine lv_iconst (v := 1) hx hb dX7_isWanted_14 (by decide) ?_
      refine lv_goto (tgt := 19) hx hb dX7_isWanted_15 (by decide) ?_
      exact kX7_isWanted_19 E0 n r_ret 1 hr H locs ls hP hD hS (lv_sub hl [] rfl)
set_option maxHeartbeats 4000000 in
set_option maxRecDepth 100000 in
theorem mX7_isWanted (l : Launch) (D : va_G) (c : Nat → ClassId) (sz : Nat) (v0 : Int32) (v1 : Int32) (v2 : Int32) (n : Nat) (r_ret : Int32) (h : fX7_isWanted n v0 v1 v2 = some (r_ret)) : Met l yX7_isWanted wsX7_isWanted ({ frames := 0, cells := 0, slots := 0, locals := 0 } : Room) (xPc D (xT c) sz [.int v0, .int v1, .int v2] (wX7_isWanted c) (fun _ => True)) (xQi D (xT c) (va_A (wX7_isWanted c) sz) r_ret (wX7_isWanted c)) 0 0 (va_A (wX7_isWanted c) sz) := by
  refine Met.ofW (cc := cX7_isWanted) (maxL := 3) (ret := (some .boolean)) (by decide) rfl ?_
  intro p e s m args below meth cd s₁ B hml hv
  obtain ⟨rfl, hsz, hP, hK, hD0, hV⟩ := hv
  subst hsz
  have hl := lv_entry [.int v0, .int v1, .int v2] (n := 3) (Nat.le_of_ble_eq_true rfl)
  rw [lg_entry_eq]
  exact kX7_isWanted_0 (A := va_A (wX7_isWanted c) s.heap.size) ⟨B.exec, B.bytes, hml, B.returns, findClass_of_methodNamed B.named, atoms_spec (ws := wsX7_isWanted) B.pre, B.notSynchronized, fun q h => Or.inr h, hK⟩ n r_ret v0 v1 v2 h s.heap [] _ hP hD0.self va_S.rf hl

abbrev wX7_minutesAlone (c : Nat → ClassId) (a_this : Nat) (a_text : Nat) (a_facts : Nat) (a_told : Nat) (a_now : Nat) (a_trial : Nat) (a_past : Nat) (a_kept : Nat) (a_sightings : Nat) (a_plan : Nat) (a_slates : Nat) (a_reckoned : Nat) (a_trial_knows : Nat) (a_trial_kind : Nat) (a_trial_on : Nat) (a_trial_has : Nat) (a_facts_leans : Nat) (a_facts_all : Nat) (a_facts_lostWith : Nat) (ev : Nat → Nat) (x_undoable : Int32) (x_keptBits : Int32) (x_facts_size : Int32) (x_facts_lostWith : Nat → Int32) (x_trial_members : Int32) (x_trial_leeches : Int32) (x_trial_basin : Int32) (x_trial_minute : Int32) (x_trial_knows : Nat → Int32) (x_trial_kind : Nat → Int32) (x_trial_on : Nat → Int32) (x_trial_has : Nat → Int32) : va_W := [(a_this, .inr (7, [.ref a_text, .ref a_facts, .ref a_told, .ref a_now, .ref a_trial, .ref a_past, .int x_undoable, .ref a_kept, .int x_keptBits, .ref a_sightings, .ref a_plan, .ref a_slates, .ref a_reckoned])), (a_trial, .inr (3, [.int x_trial_members, .int x_trial_leeches, .int x_trial_basin, .int x_trial_minute, .ref a_trial_knows, .ref a_trial_kind, .ref a_trial_on, .ref a_trial_has])), (a_trial_knows, .inl (c 0, 4, .inl x_trial_knows)), (a_trial_kind, .inl (c 0, 5, .inl x_trial_kind)), (a_trial_on, .inl (c 0, 5, .inl x_trial_on)), (a_trial_has, .inl (c 0, 5, .inl x_trial_has)), (a_facts, .inr (0, [.int x_facts_size, .ref a_facts_leans, .ref a_facts_all, .ref a_facts_lostWith])), (a_facts_lostWith, .inl (c 0, 12, .inl x_facts_lostWith))]
def GX7_minutesAlone (p : Program) (l : Launch) (e : Env) (s : State) (m : MethodId) (args : Array Value) (below : List Frame) (meth : Method) (cd : Code) (D : va_G) (c : Nat → ClassId) (A : Nat → Prop) (a_this : Nat) (a_text : Nat) (a_facts : Nat) (a_told : Nat) (a_now : Nat) (a_trial : Nat) (a_past : Nat) (a_kept : Nat) (a_sightings : Nat) (a_plan : Nat) (a_slates : Nat) (a_reckoned : Nat) (a_trial_knows : Nat) (a_trial_kind : Nat) (a_trial_on : Nat) (a_trial_has : Nat) (a_facts_leans : Nat) (a_facts_all : Nat) (a_facts_lostWith : Nat) (ev : Nat → Nat) (x_undoable : Int32) (x_keptBits : Int32) (x_facts_size : Int32) (x_facts_lostWith : Nat → Int32) (r_ret : Int32) (rm_trial_members : Int32) (rm_trial_leeches : Int32) (rm_trial_basin : Int32) (rm_trial_minute : Int32) (rm_trial_knows : Nat → Int32) (rm_trial_kind : Nat → Int32) (rm_trial_on : Nat → Int32) (rm_trial_has : Nat → Int32) (pc : Nat) (st : List Value) (loc : List (Nat × Value)) (x_trial_members : Int32) (x_trial_leeches : Int32) (x_trial_basin : Int32) (x_trial_minute : Int32) (x_trial_knows : Nat → Int32) (x_trial_kind : Nat → Int32) (x_trial_on : Nat → Int32) (x_trial_has : Nat → Int32) : Prop :=
  ∀ (H : Heap) (locs : List Loc) (ls : Array Slot), va_P D vwCl (wX7_minutesAlone c a_this a_text a_facts a_told a_now a_trial a_past a_kept a_sightings a_plan a_slates a_reckoned a_trial_knows a_trial_kind a_trial_on a_trial_has a_facts_leans a_facts_all a_facts_lostWith ev x_undoable x_keptBits x_facts_size x_facts_lostWith x_trial_members x_trial_leeches x_trial_basin x_trial_minute x_trial_knows x_trial_kind x_trial_on x_trial_has) H → va_D A (wX7_minutesAlone c a_this a_text a_facts a_told a_now a_trial a_past a_kept a_sightings a_plan a_slates a_reckoned a_trial_knows a_trial_kind a_trial_on a_trial_has a_facts_leans a_facts_all a_facts_lostWith ev x_undoable x_keptBits x_facts_size x_facts_lostWith x_trial_members x_trial_leeches x_trial_basin x_trial_minute x_trial_knows x_trial_kind x_trial_on x_trial_has) → va_S A s.heap H locs → lv_has ls 6 loc → W p l e ({ frames := 4, cells := 0, slots := 0, locals := 93 } : Room) s m args below meth cd H locs 0 0 (MQ below (xQi D (xT c) A r_ret (wX7_minutesAlone c a_this a_text a_facts a_told a_now a_trial a_past a_kept a_sightings a_plan a_slates a_reckoned a_trial_knows a_trial_kind a_trial_on a_trial_has a_facts_leans a_facts_all a_facts_lostWith ev x_undoable x_keptBits x_facts_size x_facts_lostWith rm_trial_members rm_trial_leeches rm_trial_basin rm_trial_minute rm_trial_knows rm_trial_kind rm_trial_on rm_trial_has)) args s 0 0 A) (F0 m pc ls st)
theorem lkX7_minutesAlone_f116 : Cond.fieldLink RX7 116 "LeechClub$Room" "knows" "[I" ∈ wsX7_minutesAlone := by decide +kernel
theorem lkX7_minutesAlone_f19 : Cond.fieldLink RX7 19 "LeechClub" "facts" "LLeechClub$Facts;" ∈ wsX7_minutesAlone := by decide +kernel
theorem lkX7_minutesAlone_f33 : Cond.fieldLink RX7 33 "LeechClub" "trial" "LLeechClub$Room;" ∈ wsX7_minutesAlone := by decide +kernel
theorem inX7_minutesAlone_X7 : ∀ w ∈ wsX70, w ∈ wsX7_minutesAlone := by decide +kernel
theorem inX7_minutesAlone_X3 : ∀ w ∈ wsX30, w ∈ wsX7_minutesAlone := by decide +kernel
set_option maxHeartbeats 4000000 in
set_option maxRecDepth 100000 in
theorem kX7_minutesAlone_12 {p : Program} {l : Launch} {e : Env} {s : State} {m : MethodId} {args : Array Value} {below : List Frame} {meth : Method} {cd : Code} {D : va_G} {c : Nat → ClassId} {A : Nat → Prop} (E0 : xE p s m args meth cd D (xT c) A RX7 cX7_minutesAlone 6 (some .int) wsX7_minutesAlone) (a_this : Nat) (a_text : Nat) (a_facts : Nat) (a_told : Nat) (a_now : Nat) (a_trial : Nat) (a_past : Nat) (a_kept : Nat) (a_sightings : Nat) (a_plan : Nat) (a_slates : Nat) (a_reckoned : Nat) (a_trial_knows : Nat) (a_trial_kind : Nat) (a_trial_on : Nat) (a_trial_has : Nat) (a_facts_leans : Nat) (a_facts_all : Nat) (a_facts_lostWith : Nat) (ev : Nat → Nat) (x_undoable : Int32) (x_keptBits : Int32) (x_facts_size : Int32) (x_facts_lostWith : Nat → Int32) (n : Nat) (r_ret : Int32) (rm_trial_members : Int32) (rm_trial_leeches : Int32) (rm_trial_basin : Int32) (rm_trial_minute : Int32) (rm_trial_knows : Nat → Int32) (rm_trial_kind : Nat → Int32) (rm_trial_on : Nat → Int32) (rm_trial_has : Nat → Int32) (hV : xV ev A s) : ∀ (k : Nat) (x_trial_members : Int32) (x_trial_leeches : Int32) (x_trial_basin : Int32) (x_trial_minute : Int32) (x_trial_knows : Nat → Int32) (x_trial_kind : Nat → Int32) (x_trial_on : Nat → Int32) (x_trial_has : Nat → Int32) (v3 : Int32) (v4 : Int32) (v5 : Int32), fX7_minutesAlone_12 n x_facts_lostWith k x_trial_members x_trial_leeches x_trial_basin x_trial_minute x_trial_knows x_trial_kind x_trial_on x_trial_has v3 v4 v5 = some (r_ret, rm_trial_members, rm_trial_leeches, rm_trial_basin, rm_trial_minute, rm_trial_knows, rm_trial_kind, rm_trial_on, rm_trial_has) → GX7_minutesAlone p l e s m args below meth cd D c A a_this a_text a_facts a_told a_now a_trial a_past a_kept a_sightings a_plan a_slates a_reckoned a_trial_knows a_trial_kind a_trial_on a_trial_has a_facts_leans a_facts_all a_facts_lostWith ev x_undoable x_keptBits x_facts_size x_facts_lostWith r_ret rm_trial_members rm_trial_leeches rm_trial_basin rm_trial_minute rm_trial_knows rm_trial_kind rm_trial_on rm_trial_has 12 [] [(0, .ref a_this), (3, .int v3), (4, .int v4), (5, .int v5)] x_trial_members x_trial_leeches x_trial_basin x_trial_minute x_trial_knows x_trial_kind x_trial_on x_trial_has := by
  have E1 := E0
  obtain ⟨hx, hb, hml, hret, hown, hts, hlocks, hA, hK⟩ := E1
  have hVV := hV
  obtain ⟨hn_RX7_9, hn_RX6_17, hn_RX6_24, hn_RX7_18, hn_RX7_25, hn_RX7_45, hn_RX7_52, hn_RX7_65, hn_RX7_70, hn_RX0_31, hn_RX3_53, hn_RX2_57, hn_RX3_65, hn_RX3_86, hz_TAKES, ht_TAKES, hz_HAS_ROOM, ht_HAS_ROOM, hz_SUCH, ht_SUCH, hz_FIRST_FIGURE, ht_FIRST_FIGURE, hz_compact, hz_sioobe, ho_Room, ho_Slate, ho_grid, hstr, hs_0, hs_1, hs_2, hs_3, hs_4, hs_5, hs_6, hs_7, hs_8⟩ := hVV
  intro k
  induction k with
  | zero => intro x_trial_members x_trial_leeches x_trial_basin x_trial_minute x_trial_knows x_trial_kind x_trial_on x_trial_has v3 v4 v5 hr; cases hr
  | succ k h_12 =>
    intro x_trial_members x_trial_leeches x_trial_basin x_trial_minute x_trial_knows x_trial_kind x_trial_on x_trial_has v3 v4 v5 hr H locs ls hP hD hS hl
    unfold fX7_minutesAlone_12 at hr
    refine lv_iload hx hb dX7_minutesAlone_12 (lv_at hl 3 rfl) ?_
    refine lv_bipush (v := 20) hx hb dX7_minutesAlone_14 (by decide) ?_
    refine lv_icmp_gt (tgt := 58) hx hb dX7_minutesAlone_16 (by decide) (fun c_1 => ?_) (fun c_1 => ?_)
    · have hr := x_ift hr c_1
      refine lv_iconst (v := (-1)) hx hb dX7_minutesAlone_58 (by decide) ?_
      have g0 := x_some hr
      have e0 := x_p1 g0
      have g1 := x_p2 g0
      have e1 := x_p1 g1
      have g2 := x_p2 g1
      have e2 := x_p1 g2
      have g3 := x_p2 g2
      have e3 := x_p1 g3
      have g4 := x_p2 g3
      have e4 := x_p1 g4
      have g5 := x_p2 g4
      have e5 := x_p1 g5
      have g6 := x_p2 g5
      have e6 := x_p1 g6
      have g7 := x_p2 g6
      have e7 := x_p1 g7
      have e8 := x_p2 g7
      subst e0
      subst e1
      subst e2
      subst e3
      subst e4
      subst e5
      subst e6
      subst e7
      subst e8
      exact x_reti hx hb hret hlocks hP hD hK hS dX7_minutesAlone_59
    · have hr := x_iff hr c_1
      refine lv_aload_n hx hb dX7_minutesAlone_19 rfl (lv_at hl 0 rfl) ?_
      refine va_get (D := D) (ci := 7) (v := .ref a_trial) (C := RX7) (T := TX7) (N := 13) hx hb hts inX7_minutesAlone_X7 hown hK hP 0 rfl rfl 4 (by decide) (hts _ lkX7_minutesAlone_f33) (fun _ h9 => h9) rfl dX7_minutesAlone_20 ?_
      refine va_get (D := D) (ci := 3) (v := .ref a_trial_knows) (C := RX3) (T := TX3) (N := 8) hx hb hts inX7_minutesAlone_X3 hown hK hP 1 rfl rfl 4 (by decide) (hts _ lkX7_minutesAlone_f116) (fun _ h9 => h9) rfl dX7_minutesAlone_23 ?_
      refine lv_iconst (v := 0) hx hb dX7_minutesAlone_26 (by decide) ?_
      refine va_iald hx hb hK hP 2 0 rfl rfl (by unfold vp_in; decide) dX7_minutesAlone_27 ?_
      refine W.eq (g2 := F0 m 28 ls [.int (x_trial_knows 0)]) rfl ?_
      refine lv_iload_n hx hb dX7_minutesAlone_28 rfl (lv_at hl 1 rfl) ?_
      refine lv_iload hx hb dX7_minutesAlone_29 (lv_at hl 2 rfl) ?_
      obtain ⟨q2_0, hc2, hr⟩ := x_bind hr
      refine x_runi (wr := [(a_this, .inr (7, [.ref a_text, .ref a_facts, .ref a_told, .ref a_now, .ref a_trial, .ref a_past, .int x_undoable, .ref a_kept, .int x_keptBits, .ref a_sightings, .ref a_plan, .ref a_slates, .ref a_reckoned])), (a_trial, .inr (3, [.int x_trial_members, .int x_trial_leeches, .int x_trial_basin, .int x_trial_minute, .ref a_trial_knows, .ref a_trial_kind, .ref a_trial_on, .ref a_trial_has])), (a_trial_knows, .inl (c 0, 4, .inl x_trial_knows)), (a_trial_kind, .inl (c 0, 5, .inl x_trial_kind)), (a_trial_on, .inl (c 0, 5, .inl x_trial_on)), (a_trial_has, .inl (c 0, 5, .inl x_trial_has)), (a_facts, .inr (0, [.int x_facts_size, .ref a_facts_leans, .ref a_facts_all, .ref a_facts_lostWith])), (a_facts_lostWith, .inl (c 0, 12, .inl x_facts_lostWith))]) (wf := [(a_this, .inr (7, [.ref a_text, .ref a_facts, .ref a_told, .ref a_now, .ref a_trial, .ref a_past, .int x_undoable, .ref a_kept, .int x_keptBits, .ref a_sightings, .ref a_plan, .ref a_slates, .ref a_reckoned])), (a_trial, .inr (3, [.int x_trial_members, .int x_trial_leeches, .int x_trial_basin, .int x_trial_minute, .ref a_trial_knows, .ref a_trial_kind, .ref a_trial_on, .ref a_trial_has])), (a_trial_knows, .inl (c 0, 4, .inl x_trial_knows)), (a_trial_kind, .inl (c 0, 5, .inl x_trial_kind)), (a_trial_on, .inl (c 0, 5, .inl x_trial_on)), (a_trial_has, .inl (c 0, 5, .inl x_trial_has)), (a_facts, .inr (0, [.int x_facts_size, .ref a_facts_leans, .ref a_facts_all, .ref a_facts_lostWith])), (a_facts_lostWith, .inl (c 0, 12, .inl x_facts_lostWith))]) (x_goS (As := [.int (x_trial_knows 0), .int v3, .int v4]) (rest := []) ⟨hx, hb, hml, hown, hts⟩ (mX7_isWanted l D c H.size (x_trial_knows 0) v3 v4 n _ hc2) (va_cwS 3 hts gX7_minutesAlone_X7_isWanted rfl rfl rfl (by decide +kernel) ⟨Nat.le_of_ble_eq_true rfl, Nat.le_of_ble_eq_true rfl⟩) xB_t hP hD hK [] rfl (by decide) (fun _ _ _ => trivial) rfl hl.1 rfl (Nat.le_of_ble_eq_true rfl) dX7_minutesAlone_31) hP hD hS hA [] [0, 1, 2, 3, 4, 5, 6, 7] [0, 1, 2, 3, 4, 5, 6, 7] rfl rfl rfl ⟨by decide, by decide, by decide⟩ (fun H locs hP hD hS => ?_)
      refine lv_if_eq (tgt := 40) hx hb dX7_minutesAlone_34 (by decide) (fun c_3 => ?_) (fun c_3 => ?_)
      · have hr := x_ift hr c_3
        refine lv_aload_n hx hb dX7_minutesAlone_40 rfl (lv_at hl 0 rfl) ?_
        refine va_get (D := D) (ci := 7) (v := .ref a_trial) (C := RX7) (T := TX7) (N := 13) hx hb hts inX7_minutesAlone_X7 hown hK hP 0 rfl rfl 4 (by decide) (hts _ lkX7_minutesAlone_f33) (fun _ h9 => h9) rfl dX7_minutesAlone_41 ?_
        refine lv_aload_n hx hb dX7_minutesAlone_44 rfl (lv_at hl 0 rfl) ?_
        refine va_get (D := D) (ci := 7) (v := .ref a_facts) (C := RX7) (T := TX7) (N := 13) hx hb hts inX7_minutesAlone_X7 hown hK hP 0 rfl rfl 1 (by decide) (hts _ lkX7_minutesAlone_f19) (fun _ h9 => h9) rfl dX7_minutesAlone_45 ?_
        refine lv_iconst (v := 1) hx hb dX7_minutesAlone_48 (by decide) ?_
        obtain ⟨⟨q4_0, q4_1, q4_2, q4_3⟩, hc4, hr⟩ := x_bind hr
        try dsimp only at hr
        refine x_runv (wr := [(a_this, .inr (7, [.ref a_text, .ref a_facts, .ref a_told, .ref a_now, .ref a_trial, .ref a_past, .int x_undoable, .ref a_kept, .int x_keptBits, .ref a_sightings, .ref a_plan, .ref a_slates, .ref a_reckoned]))]) (wf := [(a_this, .inr (7, [.ref a_text, .ref a_facts, .ref a_told, .ref a_now, .ref a_trial, .ref a_past, .int x_undoable, .ref a_kept, .int x_keptBits, .ref a_sightings, .ref a_plan, .ref a_slates, .ref a_reckoned])), (a_trial, .inr (3, [.int x_trial_members, .int x_trial_leeches, .int x_trial_basin, .int q4_0, .ref a_trial_knows, .ref a_trial_kind, .ref a_trial_on, .ref a_trial_has])), (a_trial_knows, .inl (c 0, 4, .inl q4_2)), (a_trial_kind, .inl (c 0, 5, .inl x_trial_kind)), (a_trial_on, .inl (c 0, 5, .inl q4_3)), (a_trial_has, .inl (c 0, 5, .inl q4_1)), (a_facts, .inr (0, [.int x_facts_size, .ref a_facts_leans, .ref a_facts_all, .ref a_facts_lostWith])), (a_facts_lostWith, .inl (c 0, 12, .inl x_facts_lostWith))]) (x_goV (As := [.ref a_facts, .int 1]) (rest := []) ⟨hx, hb, hml, hown, hts⟩ (mX3_pass l D c a_trial a_facts a_trial_knows a_trial_kind a_trial_on a_trial_has a_facts_leans a_facts_all a_facts_lostWith ev H.size x_trial_basin x_facts_size x_trial_leeches x_trial_members x_trial_kind x_facts_lostWith x_trial_minute x_trial_has x_trial_knows x_trial_on 1 n _ _ _ _ hc4) (cwV 2 hts gX7_minutesAlone_X3_pass rfl rfl rfl (by decide +kernel) ⟨Nat.le_of_ble_eq_true rfl, Nat.le_of_ble_eq_true rfl⟩) xV_b hP hD hK [1, 4, 3, 5, 2, 6, 7] rfl (by decide) (fun U hU hW => xV_call hV hS (va_free hD hS hA [1, 4, 3, 5, 2, 6, 7] rfl) hU hW) 1 3 rfl rfl rfl rfl hl.1 rfl (Nat.le_of_ble_eq_true rfl) dX7_minutesAlone_49) hP hD hS hA [1, 4, 3, 5, 2, 6, 7] [0] [0, 1, 5, 3, 2, 4, 6, 7] rfl rfl rfl ⟨by decide, by decide, by decide⟩ (fun H locs hP hD hS => ?_)
        refine lv_iinc (v := v5 + 1) (lv' := [(5, .int (v5 + 1)), (0, .ref a_this), (3, .int v3), (4, .int v4)]) hx hb dX7_minutesAlone_52 hl (k := 3) rfl rfl (by decide) rfl (fun ls hl => ?_)
        refine lv_goto (tgt := 12) hx hb dX7_minutesAlone_55 (by decide) ?_
        exact h_12 x_trial_members x_trial_leeches x_trial_basin q4_0 q4_2 x_trial_kind q4_3 q4_1 v3 v4 (v5 + 1) hr H locs ls hP hD hS (lv_sub hl [1, 2, 3, 0] rfl)
      · have hr := x_iff hr c_3
        refine lv_iload hx hb dX7_minutesAlone_37 (lv_at hl 3 rfl) ?_
        have g0 := x_some hr
        have e0 := x_p1 g0
        have g1 := x_p2 g0
        have e1 := x_p1 g1
        have g2 := x_p2 g1
        have e2 := x_p1 g2
        have g3 := x_p2 g2
        have e3 := x_p1 g3
        have g4 := x_p2 g3
        have e4 := x_p1 g4
        have g5 := x_p2 g4
        have e5 := x_p1 g5
        have g6 := x_p2 g5
        have e6 := x_p1 g6
        have g7 := x_p2 g6
        have e7 := x_p1 g7
        have e8 := x_p2 g7
        subst e0
        subst e1
        subst e2
        subst e3
        subst e4
        subst e5
        subst e6
        subst e7
        subst e8
        exact x_reti hx hb hret hlocks hP hD hK hS dX7_minutesAlone_39
set_option maxHeartbeats 4000000 in
set_option maxRecDepth 100000 in
theorem kX7_minutesAlone_0 {p : Program} {l : Launch} {e : Env} {s : State} {m : MethodId} {args : Array Value} {below : List Frame} {meth : Method} {cd : Code} {D : va_G} {c : Nat → ClassId} {A : Nat → Prop} (E0 : xE p s m args meth cd D (xT c) A RX7 cX7_minutesAlone 6 (some .int) wsX7_minutesAlone) (a_this : Nat) (a_text : Nat) (a_facts : Nat) (a_told : Nat) (a_now : Nat) (a_trial : Nat) (a_past : Nat) (a_kept : Nat) (a_sightings : Nat) (a_plan : Nat) (a_slates : Nat) (a_reckoned : Nat) (a_trial_knows : Nat) (a_trial_kind : Nat) (a_trial_on : Nat) (a_trial_has : Nat) (a_facts_leans : Nat) (a_facts_all : Nat) (a_facts_lostWith : Nat) (ev : Nat → Nat) (x_undoable : Int32) (x_keptBits : Int32) (x_facts_size : Int32) (x_facts_lostWith : Nat → Int32) (n : Nat) (r_ret : Int32) (rm_trial_members : Int32) (rm_trial_leeches : Int32) (rm_trial_basin : Int32) (rm_trial_minute : Int32) (rm_trial_knows : Nat → Int32) (rm_trial_kind : Nat → Int32) (rm_trial_on : Nat → Int32) (rm_trial_has : Nat → Int32) (hV : xV ev A s) (x_trial_members : Int32) (x_trial_leeches : Int32) (x_trial_basin : Int32) (x_trial_minute : Int32) (x_trial_knows : Nat → Int32) (x_trial_kind : Nat → Int32) (x_trial_on : Nat → Int32) (x_trial_has : Nat → Int32) (v1 : Int32) (v2 : Int32) (v3 : Int32) (v4 : Int32) (hr : fX7_minutesAlone n x_facts_lostWith x_trial_members x_trial_leeches x_trial_basin x_trial_minute x_trial_knows x_trial_kind x_trial_on x_trial_has v1 v2 v3 v4 = some (r_ret, rm_trial_members, rm_trial_leeches, rm_trial_basin, rm_trial_minute, rm_trial_knows, rm_trial_kind, rm_trial_on, rm_trial_has)) : GX7_minutesAlone p l e s m args below meth cd D c A a_this a_text a_facts a_told a_now a_trial a_past a_kept a_sightings a_plan a_slates a_reckoned a_trial_knows a_trial_kind a_trial_on a_trial_has a_facts_leans a_facts_all a_facts_lostWith ev x_undoable x_keptBits x_facts_size x_facts_lostWith r_ret rm_trial_members rm_trial_leeches rm_trial_basin rm_trial_minute rm_trial_knows rm_trial_kind rm_trial_on rm_trial_has 0 [] [(0, .ref a_this), (1, .int v1), (2, .int v2), (3, .int v3), (4, .int v4)] x_trial_members x_trial_leeches x_trial_basin x_trial_minute x_trial_knows x_trial_kind x_trial_on x_trial_has := by
  have E1 := E0
  obtain ⟨hx, hb, hml, hret, hown, hts, hlocks, hA, hK⟩ := E1
  have hVV := hV
  obtain ⟨hn_RX7_9, hn_RX6_17, hn_RX6_24, hn_RX7_18, hn_RX7_25, hn_RX7_45, hn_RX7_52, hn_RX7_65, hn_RX7_70, hn_RX0_31, hn_RX3_53, hn_RX2_57, hn_RX3_65, hn_RX3_86, hz_TAKES, ht_TAKES, hz_HAS_ROOM, ht_HAS_ROOM, hz_SUCH, ht_SUCH, hz_FIRST_FIGURE, ht_FIRST_FIGURE, hz_compact, hz_sioobe, ho_Room, ho_Slate, ho_grid, hstr, hs_0, hs_1, hs_2, hs_3, hs_4, hs_5, hs_6, hs_7, hs_8⟩ := hVV
  intro H locs ls hP hD hS hl
  unfold fX7_minutesAlone at hr
  refine lv_aload_n hx hb dX7_minutesAlone_0 rfl (lv_at hl 0 rfl) ?_
  refine va_get (D := D) (ci := 7) (v := .ref a_trial) (C := RX7) (T := TX7) (N := 13) hx hb hts inX7_minutesAlone_X7 hown hK hP 0 rfl rfl 4 (by decide) (hts _ lkX7_minutesAlone_f33) (fun _ h9 => h9) rfl dX7_minutesAlone_1 ?_
  refine lv_iload_n hx hb dX7_minutesAlone_4 rfl (lv_at hl 1 rfl) ?_
  refine lv_iload_n hx hb dX7_minutesAlone_5 rfl (lv_at hl 2 rfl) ?_
  obtain ⟨⟨q1_0, q1_1, q1_2, q1_3, q1_4, q1_5, q1_6, q1_7⟩, hc1, hr⟩ := x_bind hr
  try dsimp only at hr
  refine x_runv (wr := [(a_this, .inr (7, [.ref a_text, .ref a_facts, .ref a_told, .ref a_now, .ref a_trial, .ref a_past, .int x_undoable, .ref a_kept, .int x_keptBits, .ref a_sightings, .ref a_plan, .ref a_slates, .ref a_reckoned])), (a_facts, .inr (0, [.int x_facts_size, .ref a_facts_leans, .ref a_facts_all, .ref a_facts_lostWith])), (a_facts_lostWith, .inl (c 0, 12, .inl x_facts_lostWith))]) (wf := [(a_this, .inr (7, [.ref a_text, .ref a_facts, .ref a_told, .ref a_now, .ref a_trial, .ref a_past, .int x_undoable, .ref a_kept, .int x_keptBits, .ref a_sightings, .ref a_plan, .ref a_slates, .ref a_reckoned])), (a_trial, .inr (3, [.int q1_0, .int q1_1, .int q1_2, .int q1_3, .ref a_trial_knows, .ref a_trial_kind, .ref a_trial_on, .ref a_trial_has])), (a_trial_knows, .inl (c 0, 4, .inl q1_4)), (a_trial_kind, .inl (c 0, 5, .inl q1_5)), (a_trial_on, .inl (c 0, 5, .inl q1_6)), (a_trial_has, .inl (c 0, 5, .inl q1_7)), (a_facts, .inr (0, [.int x_facts_size, .ref a_facts_leans, .ref a_facts_all, .ref a_facts_lostWith])), (a_facts_lostWith, .inl (c 0, 12, .inl x_facts_lostWith))]) (x_goV (As := [.int v1, .int v2]) (rest := []) ⟨hx, hb, hml, hown, hts⟩ (mX3_setAlone l D c a_trial a_trial_knows a_trial_kind a_trial_on a_trial_has H.size x_trial_members x_trial_leeches x_trial_basin x_trial_minute x_trial_knows x_trial_kind x_trial_on x_trial_has v1 v2 n _ _ _ _ _ _ _ _ hc1) (cwV 2 hts gX7_minutesAlone_X3_setAlone rfl rfl rfl (by decide +kernel) ⟨Nat.le_of_ble_eq_true rfl, Nat.le_of_ble_eq_true rfl⟩) xB_t hP hD hK [1, 2, 3, 4, 5] rfl (by decide) (fun _ _ _ => trivial) 1 3 rfl rfl rfl rfl hl.1 rfl (Nat.le_of_ble_eq_true rfl) dX7_minutesAlone_6) hP hD hS hA [1, 2, 3, 4, 5] [0, 6, 7] [0, 3, 4, 5, 6, 7, 1, 2] rfl rfl rfl ⟨by decide, by decide, by decide⟩ (fun H locs hP hD hS => ?_)
  refine lv_iconst (v := 0) hx hb dX7_minutesAlone_9 (by decide) ?_
  refine lv_istore (lv' := [(5, .int 0), (0, .ref a_this), (1, .int v1), (2, .int v2), (3, .int v3), (4, .int v4)]) hx hb dX7_minutesAlone_10 hl (by decide) rfl (fun ls hl => ?_)
  exact kX7_minutesAlone_12 E0 a_this a_text a_facts a_told a_now a_trial a_past a_kept a_sightings a_plan a_slates a_reckoned a_trial_knows a_trial_kind a_trial_on a_trial_has a_facts_leans a_facts_all a_facts_lostWith ev x_undoable x_keptBits x_facts_size x_facts_lostWith n r_ret rm_trial_members rm_trial_leeches rm_trial_basin rm_trial_minute rm_trial_knows rm_trial_kind rm_trial_on rm_trial_has hV n q1_0 q1_1 q1_2 q1_3 q1_4 q1_5 q1_6 q1_7 v3 v4 0 hr H locs ls hP hD hS (lv_sub hl [1, 4, 5, 0] rfl)
set_option maxHeartbeats 4000000 in
set_option maxRecDepth 100000 in
theorem mX7_minutesAlone (l : Launch) (D : va_G) (c : Nat → ClassId) (a_this : Nat) (a_text : Nat) (a_facts : Nat) (a_told : Nat) (a_now : Nat) (a_trial : Nat) (a_past : Nat) (a_kept : Nat) (a_sightings : Nat) (a_plan : Nat) (a_slates : Nat) (a_reckoned : Nat) (a_trial_knows : Nat) (a_trial_kind : Nat) (a_trial_on : Nat) (a_trial_has : Nat) (a_facts_leans : Nat) (a_facts_all : Nat) (a_facts_lostWith : Nat) (ev : Nat → Nat) (sz : Nat) (x_undoable : Int32) (x_keptBits : Int32) (x_facts_size : Int32) (x_facts_lostWith : Nat → Int32) (x_trial_members : Int32) (x_trial_leeches : Int32) (x_trial_basin : Int32) (x_trial_minute : Int32) (x_trial_knows : Nat → Int32) (x_trial_kind : Nat → Int32) (x_trial_on : Nat → Int32) (x_trial_has : Nat → Int32) (v1 : Int32) (v2 : Int32) (v3 : Int32) (v4 : Int32) (n : Nat) (r_ret : Int32) (rm_trial_members : Int32) (rm_trial_leeches : Int32) (rm_trial_basin : Int32) (rm_trial_minute : Int32) (rm_trial_knows : Nat → Int32) (rm_trial_kind : Nat → Int32) (rm_trial_on : Nat → Int32) (rm_trial_has : Nat → Int32) (h : fX7_minutesAlone n x_facts_lostWith x_trial_members x_trial_leeches x_trial_basin x_trial_minute x_trial_knows x_trial_kind x_trial_on x_trial_has v1 v2 v3 v4 = some (r_ret, rm_trial_members, rm_trial_leeches, rm_trial_basin, rm_trial_minute, rm_trial_knows, rm_trial_kind, rm_trial_on, rm_trial_has)) : Met l yX7_minutesAlone wsX7_minutesAlone ({ frames := 4, cells := 0, slots := 0, locals := 93 } : Room) (xPc D (xT c) sz [.ref a_this, .int v1, .int v2, .int v3, .int v4] (wX7_minutesAlone c a_this a_text a_facts a_told a_now a_trial a_past a_kept a_sightings a_plan a_slates a_reckoned a_trial_knows a_trial_kind a_trial_on a_trial_has a_facts_leans a_facts_all a_facts_lostWith ev x_undoable x_keptBits x_facts_size x_facts_lostWith x_trial_members x_trial_leeches x_trial_basin x_trial_minute x_trial_knows x_trial_kind x_trial_on x_trial_has) (xV ev (va_A (wX7_minutesAlone c a_this a_text a_facts a_told a_now a_trial a_past a_kept a_sightings a_plan a_slates a_reckoned a_trial_knows a_trial_kind a_trial_on a_trial_has a_facts_leans a_facts_all a_facts_lostWith ev x_undoable x_keptBits x_facts_size x_facts_lostWith x_trial_members x_trial_leeches x_trial_basin x_trial_minute x_trial_knows x_trial_kind x_trial_on x_trial_has) sz))) (xQi D (xT c) (va_A (wX7_minutesAlone c a_this a_text a_facts a_told a_now a_trial a_past a_kept a_sightings a_plan a_slates a_reckoned a_trial_knows a_trial_kind a_trial_on a_trial_has a_facts_leans a_facts_all a_facts_lostWith ev x_undoable x_keptBits x_facts_size x_facts_lostWith x_trial_members x_trial_leeches x_trial_basin x_trial_minute x_trial_knows x_trial_kind x_trial_on x_trial_has) sz) r_ret (wX7_minutesAlone c a_this a_text a_facts a_told a_now a_trial a_past a_kept a_sightings a_plan a_slates a_reckoned a_trial_knows a_trial_kind a_trial_on a_trial_has a_facts_leans a_facts_all a_facts_lostWith ev x_undoable x_keptBits x_facts_size x_facts_lostWith rm_trial_members rm_trial_leeches rm_trial_basin rm_trial_minute rm_trial_knows rm_trial_kind rm_trial_on rm_trial_has)) 0 0 (va_A (wX7_minutesAlone c a_this a_text a_facts a_told a_now a_trial a_past a_kept a_sightings a_plan a_slates a_reckoned a_trial_knows a_trial_kind a_trial_on a_trial_has a_facts_leans a_facts_all a_facts_lostWith ev x_undoable x_keptBits x_facts_size x_facts_lostWith x_trial_members x_trial_leeches x_trial_basin x_trial_minute x_trial_knows x_trial_kind x_trial_on x_trial_has) sz) := by
  refine Met.ofW (cc := cX7_minutesAlone) (maxL := 6) (ret := (some .int)) (by decide) rfl ?_
  intro p e s m args below meth cd s₁ B hml hv
  obtain ⟨rfl, hsz, hP, hK, hD0, hV⟩ := hv
  subst hsz
  have hl := lv_entry [.ref a_this, .int v1, .int v2, .int v3, .int v4] (n := 6) (Nat.le_of_ble_eq_true rfl)
  rw [lg_entry_eq]
  exact kX7_minutesAlone_0 (A := va_A (wX7_minutesAlone c a_this a_text a_facts a_told a_now a_trial a_past a_kept a_sightings a_plan a_slates a_reckoned a_trial_knows a_trial_kind a_trial_on a_trial_has a_facts_leans a_facts_all a_facts_lostWith ev x_undoable x_keptBits x_facts_size x_facts_lostWith x_trial_members x_trial_leeches x_trial_basin x_trial_minute x_trial_knows x_trial_kind x_trial_on x_trial_has) s.heap.size) ⟨B.exec, B.bytes, hml, B.returns, findClass_of_methodNamed B.named, atoms_spec (ws := wsX7_minutesAlone) B.pre, B.notSynchronized, fun q h => Or.inr h, hK⟩ a_this a_text a_facts a_told a_now a_trial a_past a_kept a_sightings a_plan a_slates a_reckoned a_trial_knows a_trial_kind a_trial_on a_trial_has a_facts_leans a_facts_all a_facts_lostWith ev x_undoable x_keptBits x_facts_size x_facts_lostWith n r_ret rm_trial_members rm_trial_leeches rm_trial_basin rm_trial_minute rm_trial_knows rm_trial_kind rm_trial_on rm_trial_has hV x_trial_members x_trial_leeches x_trial_basin x_trial_minute x_trial_knows x_trial_kind x_trial_on x_trial_has v1 v2 v3 v4 h s.heap [] _ hP hD0.self va_S.rf hl

