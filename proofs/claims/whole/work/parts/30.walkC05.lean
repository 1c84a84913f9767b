abbrev wX3_known (c : Nat → ClassId) (a_this : Nat) (a_knows : Nat) (a_kind : Nat) (a_on : Nat) (a_has : Nat) (x_leeches : Int32) (x_basin : Int32) (x_minute : Int32) (x_members : Int32) (x_knows : Nat → Int32) : va_W := [(a_this, .inr (3, [.int x_members, .int x_leeches, .int x_basin, .int x_minute, .ref a_knows, .ref a_kind, .ref a_on, .ref a_has])), (a_knows, .inl (c 0, 4, .inl x_knows))]
def GX3_known (p : Program) (l : Launch) (e : Env) (s : State) (m : MethodId) (args : Array Value) (below : List Frame) (meth : Method) (cd : Code) (D : va_G) (c : Nat → ClassId) (A : Nat → Prop) (a_this : Nat) (a_knows : Nat) (a_kind : Nat) (a_on : Nat) (a_has : Nat) (x_leeches : Int32) (x_basin : Int32) (x_minute : Int32) (x_members : Int32) (x_knows : Nat → Int32) (r_ret : Int32) (pc : Nat) (st : List Value) (loc : List (Nat × Value)) : Prop :=
  ∀ (H : Heap) (locs : List Loc) (ls : Array Slot), va_P D vwCl (wX3_known c a_this a_knows a_kind a_on a_has x_leeches x_basin x_minute x_members x_knows) H → va_D A (wX3_known c a_this a_knows a_kind a_on a_has x_leeches x_basin x_minute x_members x_knows) → va_S A s.heap H locs → lv_has ls 3 loc → W p l e ({ frames := 0, cells := 0, slots := 0, locals := 0 } : Room) s m args below meth cd H locs 0 0 (MQ below (xQi D (xT c) A r_ret (wX3_known c a_this a_knows a_kind a_on a_has x_leeches x_basin x_minute x_members x_knows)) args s 0 0 A) (F0 m pc ls st)
theorem lkX3_known_f24 : Cond.fieldLink RX3 24 "LeechClub$Room" "members" "I" ∈ wsX3_known := by decide +kernel
theorem lkX3_known_f9 : Cond.fieldLink RX3 9 "LeechClub$Room" "knows" "[I" ∈ wsX3_known := by decide +kernel
theorem inX3_known_X3 : ∀ w ∈ wsX30, w ∈ wsX3_known := by decide +kernel
set_option maxHeartbeats 4000000 in
set_option maxRecDepth 100000 in
theorem kX3_known_4 {p : Program} {l : Launch} {e : Env} {s : State} {m : MethodId} {args : Array Value} {below : List Frame} {meth : Method} {cd : Code} {D : va_G} {c : Nat → ClassId} {A : Nat → Prop} (E0 : xE p s m args meth cd D (xT c) A RX3 cX3_known 3 (some .int) wsX3_known) (a_this : Nat) (a_knows : Nat) (a_kind : Nat) (a_on : Nat) (a_has : Nat) (x_leeches : Int32) (x_basin : Int32) (x_minute : Int32) (x_members : Int32) (x_knows : Nat → Int32) (n : Nat) (r_ret : Int32) : ∀ (k : Nat) (v1 : Int32) (v2 : Int32), fX3_known_4 n x_members x_knows k v1 v2 = some (r_ret) → GX3_known p l e s m args below meth cd D c A a_this a_knows a_kind a_on a_has x_leeches x_basin x_minute x_members x_knows r_ret 4 [] [(0, .ref a_this), (1, .int v1), (2, .int v2)] := by
  have E1 := E0
  obtain ⟨hx, hb, hml, hret, hown, hts, hlocks, hA, hK⟩ := E1
  intro k
  induction k with
  | zero => intro v1 v2 hr; cases hr
  | succ k h_4 =>
    intro v1 v2 hr H locs ls hP hD hS hl
    unfold fX3_known_4 at hr
    refine lv_iload_n hx hb dX3_known_4 rfl (lv_at hl 2 rfl) ?_
    refine lv_aload_n hx hb dX3_known_5 rfl (lv_at hl 0 rfl) ?_
    refine va_get (D := D) (ci := 3) (v := .int x_members) (C := RX3) (T := TX3) (N := 8) hx hb hts inX3_known_X3 hown hK hP 0 rfl rfl 0 (by decide) (hts _ lkX3_known_f24) (fun _ h9 => h9) rfl dX3_known_6 ?_
    refine lv_icmp_ge (tgt := 27) hx hb dX3_known_9 (by decide) (fun c_1 => ?_) (fun c_1 => ?_)
    · have hr := x_ift hr c_1
      refine lv_iload_n hx hb dX3_known_27 rfl (lv_at hl 1 rfl) ?_
      have e0 := x_some hr
      subst e0
      exact x_reti hx hb hret hlocks hP hD hK hS dX3_known_28
    · have hr := x_iff hr c_1
      refine lv_iload_n hx hb dX3_known_12 rfl (lv_at hl 1 rfl) ?_
      refine lv_aload_n hx hb dX3_known_13 rfl (lv_at hl 0 rfl) ?_
      refine va_get (D := D) (ci := 3) (v := .ref a_knows) (C := RX3) (T := TX3) (N := 8) hx hb hts inX3_known_X3 hown hK hP 0 rfl rfl 4 (by decide) (hts _ lkX3_known_f9) (fun _ h9 => h9) rfl dX3_known_14 ?_
      refine lv_iload_n hx hb dX3_known_17 rfl (lv_at hl 2 rfl) ?_
      obtain ⟨b_2, hr⟩ := x_chk hr
      refine va_iald hx hb hK hP 1 0 rfl rfl b_2 dX3_known_18 ?_
      refine lv_ior hx hb dX3_known_19 ?_
      refine lv_istore_n (lv' := [(1, .int (v1 ||| (x_knows v2.toNatClampNeg))), (0, .ref a_this), (2, .int v2)]) hx hb dX3_known_20 rfl hl (by decide) rfl (fun ls hl => ?_)
      refine lv_iinc (v := v2 + 1) (lv' := [(2, .int (v2 + 1)), (1, .int (v1 ||| (x_knows v2.toNatClampNeg))), (0, .ref a_this)]) hx hb dX3_known_21 hl (k := 2) rfl rfl (by decide) rfl (fun ls hl => ?_)
      refine lv_goto (tgt := 4) hx hb dX3_known_24 (by decide) ?_
      exact h_4 (v1 ||| (x_knows v2.toNatClampNeg)) (v2 + 1) hr H locs ls hP hD hS (lv_sub hl [2, 1, 0] rfl)
set_option maxHeartbeats 4000000 in
set_option maxRecDepth 100000 in
theorem kX3_known_0 {p : Program} {l : Launch} {e : Env} {s : State} {m : MethodId} {args : Array Value} {below : List Frame} {meth : Method} {cd : Code} {D : va_G} {c : Nat → ClassId} {A : Nat → Prop} (E0 : xE p s m args meth cd D (xT c) A RX3 cX3_known 3 (some .int) wsX3_known) (a_this : Nat) (a_knows : Nat) (a_kind : Nat) (a_on : Nat) (a_has : Nat) (x_leeches : Int32) (x_basin : Int32) (x_minute : Int32) (x_members : Int32) (x_knows : Nat → Int32) (n : Nat) (r_ret : Int32) (hr : fX3_known n x_members x_knows = some (r_ret)) : GX3_known p l e s m args below meth cd D c A a_this a_knows a_kind a_on a_has x_leeches x_basin x_minute x_members x_knows r_ret 0 [] [(0, .ref a_this)] := by
  have E1 := E0
  obtain ⟨hx, hb, hml, hret, hown, hts, hlocks, hA, hK⟩ := E1
  intro H locs ls hP hD hS hl
  unfold fX3_known at hr
  refine lv_iconst (v := 0) hx hb dX3_known_0 (by decide) ?_
  refine lv_istore_n (lv' := [(1, .int 0), (0, .ref a_this)]) hx hb dX3_known_1 rfl hl (by decide) rfl (fun ls hl => ?_)
  refine lv_iconst (v := 0) hx hb dX3_known_2 (by decide) ?_
  refine lv_istore_n (lv' := [(2, .int 0), (1, .int 0), (0, .ref a_this)]) hx hb dX3_known_3 rfl hl (by decide) rfl (fun ls hl => ?_)
  exact kX3_known_4 E0 a_this a_knows a_kind a_on a_has x_leeches x_basin x_minute x_members x_knows n r_ret n 0 0 hr H locs ls hP hD hS (lv_sub hl [2, 1, 0] rfl)
set_option maxHeartbeats 4000000 in
set_option maxRecDepth 100000 in
theorem mX3_known (l : Launch) (D : va_G) (c : Nat → ClassId) (a_this : Nat) (a_knows : Nat) (a_kind : Nat) (a_on : Nat) (a_has : Nat) (sz : Nat) (x_leeches : Int32) (x_basin : Int32) (x_minute : Int32) (x_members : Int32) (x_knows : Nat → Int32) (n : Nat) (r_ret : Int32) (h : fX3_known n x_members x_knows = some (r_ret)) : Met l yX3_known wsX3_known ({ frames := 0, cells := 0, slots := 0, locals := 0 } : Room) (xPc D (xT c) sz [.ref a_this] (wX3_known c a_this a_knows a_kind a_on a_has x_leeches x_basin x_minute x_members x_knows) (fun _ => True)) (xQi D (xT c) (va_A (wX3_known c a_this a_knows a_kind a_on a_has x_leeches x_basin x_minute x_members x_knows) sz) r_ret (wX3_known c a_this a_knows a_kind a_on a_has x_leeches x_basin x_minute x_members x_knows)) 0 0 (va_A (wX3_known c a_this a_knows a_kind a_on a_has x_leeches x_basin x_minute x_members x_knows) sz) := by
  refine Met.ofW (cc := cX3_known) (maxL := 3) (ret := (some .int)) (by decide) rfl ?_
  intro p e s m args below meth cd s₁ B hml hv
  obtain ⟨rfl, hsz, hP, hK, hD0, hV⟩ := hv
  subst hsz
  have hl := lv_entry [.ref a_this] (n := 3) (Nat.le_of_ble_eq_true rfl)
  rw [lg_entry_eq]
  exact kX3_known_0 (A := va_A (wX3_known c a_this a_knows a_kind a_on a_has x_leeches x_basin x_minute x_members x_knows) s.heap.size) ⟨B.exec, B.bytes, hml, B.returns, findClass_of_methodNamed B.named, atoms_spec (ws := wsX3_known) B.pre, B.notSynchronized, fun q h => Or.inr h, hK⟩ a_this a_knows a_kind a_on a_has x_leeches x_basin x_minute x_members x_knows n r_ret h s.heap [] _ hP hD0.self va_S.rf hl

abbrev wX3_isSated (c : Nat → ClassId) (a_this : Nat) (a_knows : Nat) (a_kind : Nat) (a_on : Nat) (a_has : Nat) (ev : Nat → Nat) (x_members : Int32) (x_leeches : Int32) (x_basin : Int32) (x_minute : Int32) (x_has : Nat → Int32) (x_kind : Nat → Int32) : va_W := [(a_this, .inr (3, [.int x_members, .int x_leeches, .int x_basin, .int x_minute, .ref a_knows, .ref a_kind, .ref a_on, .ref a_has])), (a_has, .inl (c 0, 5, .inl x_has)), (a_kind, .inl (c 0, 5, .inl x_kind))]
def GX3_isSated (p : Program) (l : Launch) (e : Env) (s : State) (m : MethodId) (args : Array Value) (below : List Frame) (meth : Method) (cd : Code) (D : va_G) (c : Nat → ClassId) (A : Nat → Prop) (a_this : Nat) (a_knows : Nat) (a_kind : Nat) (a_on : Nat) (a_has : Nat) (ev : Nat → Nat) (x_members : Int32) (x_leeches : Int32) (x_basin : Int32) (x_minute : Int32) (x_has : Nat → Int32) (x_kind : Nat → Int32) (r_ret : Int32) (pc : Nat) (st : List Value) (loc : List (Nat × Value)) : Prop :=
  ∀ (H : Heap) (locs : List Loc) (ls : Array Slot), va_P D vwCl (wX3_isSated c a_this a_knows a_kind a_on a_has ev x_members x_leeches x_basin x_minute x_has x_kind) H → va_D A (wX3_isSated c a_this a_knows a_kind a_on a_has ev x_members x_leeches x_basin x_minute x_has x_kind) → va_S A s.heap H locs → lv_has ls 2 loc → W p l e ({ frames := 1, cells := 0, slots := 0, locals := 20 } : Room) s m args below meth cd H locs 0 0 (MQ below (xQi D (xT c) A r_ret (wX3_isSated c a_this a_knows a_kind a_on a_has ev x_members x_leeches x_basin x_minute x_has x_kind)) args s 0 0 A) (F0 m pc ls st)
theorem lkX3_isSated_f15 : Cond.fieldLink RX3 15 "LeechClub$Room" "kind" "[I" ∈ wsX3_isSated := by decide +kernel
theorem lkX3_isSated_f21 : Cond.fieldLink RX3 21 "LeechClub$Room" "has" "[I" ∈ wsX3_isSated := by decide +kernel
theorem inX3_isSated_X3 : ∀ w ∈ wsX30, w ∈ wsX3_isSated := by decide +kernel
set_option maxHeartbeats 4000000 in
set_option maxRecDepth 100000 in
theorem kX3_isSated_27 {p : Program} {l : Launch} {e : Env} {s : State} {m : MethodId} {args : Array Value} {below : List Frame} {meth : Method} {cd : Code} {D : va_G} {c : Nat → ClassId} {A : Nat → Prop} (E0 : xE p s m args meth cd D (xT c) A RX3 cX3_isSated 2 (some .boolean) wsX3_isSated) (a_this : Nat) (a_knows : Nat) (a_kind : Nat) (a_on : Nat) (a_has : Nat) (ev : Nat → Nat) (x_members : Int32) (x_leeches : Int32) (x_basin : Int32) (x_minute : Int32) (x_has : Nat → Int32) (x_kind : Nat → Int32) (n : Nat) (r_ret : Int32) (hV : xV ev A s) (t0 : Int32) (hr : fX3_isSated_27 n x_has x_kind t0 = some (r_ret)) : GX3_isSated p l e s m args below meth cd D c A a_this a_knows a_kind a_on a_has ev x_members x_leeches x_basin x_minute x_has x_kind r_ret 27 [.int t0] [] := by
  have E1 := E0
  obtain ⟨hx, hb, hml, hret, hown, hts, hlocks, hA, hK⟩ := E1
  have hVV := hV
  obtain ⟨hn_RX7_9, hn_RX6_17, hn_RX6_24, hn_RX7_18, hn_RX7_25, hn_RX7_45, hn_RX7_52, hn_RX7_65, hn_RX7_70, hn_RX0_31, hn_RX3_53, hn_RX2_57, hn_RX3_65, hn_RX3_86, hz_TAKES, ht_TAKES, hz_HAS_ROOM, ht_HAS_ROOM, hz_SUCH, ht_SUCH, hz_FIRST_FIGURE, ht_FIRST_FIGURE, hz_compact, hz_sioobe, ho_Room, ho_Slate, ho_grid, hstr, hs_0, hs_1, hs_2, hs_3, hs_4, hs_5, hs_6, hs_7, hs_8⟩ := hVV
  intro H locs ls hP hD hS hl
  unfold fX3_isSated_27 at hr
  obtain ⟨hz, hr⟩ := x_need hr
  have e0 := x_some hr
  subst e0
  exact x_retz hx hb hret (x_nz hz) hlocks hP hD hK hS dX3_isSated_27
set_option maxHeartbeats 4000000 in
set_option maxRecDepth 100000 in
theorem kX3_isSated_0 {p : Program} {l : Launch} {e : Env} {s : State} {m : MethodId} {args : Array Value} {below : List Frame} {meth : Method} {cd : Code} {D : va_G} {c : Nat → ClassId} {A : Nat → Prop} (E0 : xE p s m args meth cd D (xT c) A RX3 cX3_isSated 2 (some .boolean) wsX3_isSated) (a_this : Nat) (a_knows : Nat) (a_kind : Nat) (a_on : Nat) (a_has : Nat) (ev : Nat → Nat) (x_members : Int32) (x_leeches : Int32) (x_basin : Int32) (x_minute : Int32) (x_has : Nat → Int32) (x_kind : Nat → Int32) (n : Nat) (r_ret : Int32) (hV : xV ev A s) (v1 : Int32) (hr : fX3_isSated n x_has x_kind v1 = some (r_ret)) : GX3_isSated p l e s m args below meth cd D c A a_this a_knows a_kind a_on a_has ev x_members x_leeches x_basin x_minute x_has x_kind r_ret 0 [] [(0, .ref a_this), (1, .int v1)] := by
  have E1 := E0
  obtain ⟨hx, hb, hml, hret, hown, hts, hlocks, hA, hK⟩ := E1
  have hVV := hV
  obtain ⟨hn_RX7_9, hn_RX6_17, hn_RX6_24, hn_RX7_18, hn_RX7_25, hn_RX7_45, hn_RX7_52, hn_RX7_65, hn_RX7_70, hn_RX0_31, hn_RX3_53, hn_RX2_57, hn_RX3_65, hn_RX3_86, hz_TAKES, ht_TAKES, hz_HAS_ROOM, ht_HAS_ROOM, hz_SUCH, ht_SUCH, hz_FIRST_FIGURE, ht_FIRST_FIGURE, hz_compact, hz_sioobe, ho_Room, ho_Slate, ho_grid, hstr, hs_0, hs_1, hs_2, hs_3, hs_4, hs_5, hs_6, hs_7, hs_8⟩ := hVV
  intro H locs ls hP hD hS hl
  unfold fX3_isSated at hr
  refine lv_aload_n hx hb dX3_isSated_0 rfl (lv_at hl 0 rfl) ?_
  refine va_get (D := D) (ci := 3) (v := .ref a_has) (C := RX3) (T := TX3) (N := 8) hx hb hts inX3_isSated_X3 hown hK hP 0 rfl rfl 7 (by decide) (hts _ lkX3_isSated_f21) (fun _ h9 => h9) rfl dX3_isSated_1 ?_
  refine lv_iload_n hx hb dX3_isSated_4 rfl (lv_at hl 1 rfl) ?_
  obtain ⟨b_1, hr⟩ := x_chk hr
  refine va_iald hx hb hK hP 1 0 rfl rfl b_1 dX3_isSated_5 ?_
  obtain ⟨q2_0, hc2, hr⟩ := x_bind hr
  refine x_runi (wr := [(a_this, .inr (3, [.int x_members, .int x_leeches, .int x_basin, .int x_minute, .ref a_knows, .ref a_kind, .ref a_on, .ref a_has])), (a_has, .inl (c 0, 5, .inl x_has)), (a_kind, .inl (c 0, 5, .inl x_kind))]) (wf := [(a_this, .inr (3, [.int x_members, .int x_leeches, .int x_basin, .int x_minute, .ref a_knows, .ref a_kind, .ref a_on, .ref a_has])), (a_has, .inl (c 0, 5, .inl x_has)), (a_kind, .inl (c 0, 5, .inl x_kind))]) (x_goS (As := [.int (x_has v1.toNatClampNeg)]) (rest := []) ⟨hx, hb, hml, hown, hts⟩ (mJ6_bitCount_0f7a4 l D c H.size (x_has v1.toNatClampNeg) n _ hc2) (va_cwS 1 hts gX3_isSated_J6_bitCount_0f7a4 rfl rfl rfl (by decide +kernel) ⟨Nat.le_of_ble_eq_true rfl, Nat.le_of_ble_eq_true rfl⟩) xB_t hP hD hK [] rfl (by decide) (fun _ _ _ => trivial) rfl hl.1 rfl (Nat.le_of_ble_eq_true rfl) dX3_isSated_6) hP hD hS hA [] [0, 1, 2] [0, 1, 2] rfl rfl rfl ⟨by decide, by decide, by decide⟩ (fun H locs hP hD hS => ?_)
  refine va_getsN hx hb hz_HAS_ROOM hS hown (va_Nw.use rfl hn_RX3_86) (fun _ h9 => h9) dX3_isSated_9 ?_
  refine lv_aload_n hx hb dX3_isSated_12 rfl (lv_at hl 0 rfl) ?_
  refine va_get (D := D) (ci := 3) (v := .ref a_kind) (C := RX3) (T := TX3) (N := 8) hx hb hts inX3_isSated_X3 hown hK hP 0 rfl rfl 5 (by decide) (hts _ lkX3_isSated_f15) (fun _ h9 => h9) rfl dX3_isSated_13 ?_
  refine lv_iload_n hx hb dX3_isSated_16 rfl (lv_at hl 1 rfl) ?_
  obtain ⟨b_3, hr⟩ := x_chk hr
  refine va_iald hx hb hK hP 2 0 rfl rfl b_3 dX3_isSated_17 ?_
  obtain ⟨b_4, hr⟩ := x_chk hr
  refine va_ti hx hb ht_HAS_ROOM hS b_4 rfl dX3_isSated_18 ?_
  refine lv_icmp_lt (tgt := 26) hx hb dX3_isSated_19 (by decide) (fun c_5 => ?_) (fun c_5 => ?_)
  · have hr := x_ift hr c_5
    refine lv_iconst (v := 0) hx hb dX3_isSated_26 (by decide) ?_
    exact kX3_isSated_27 E0 a_this a_knows a_kind a_on a_has ev x_members x_leeches x_basin x_minute x_has x_kind n r_ret hV 0 hr H locs ls hP hD hS (lv_sub hl [] rfl)
  · have hr := x_iff hr c_5
    refine lv_iconst (v := 1) hx hb dX3_isSated_22 (by decide) ?_
    refine lv_goto (tgt := 27) hx hb dX3_isSated_23 (by decide) ?_
    exact kX3_isSated_27 E0 a_this a_knows a_kind a_on a_has ev x_members x_leeches x_basin x_minute x_has x_kind n r_ret hV 1 hr H locs ls hP hD hS (lv_sub hl [] rfl)
set_option maxHeartbeats 4000000 in
set_option maxRecDepth 100000 in
theorem mX3_isSated (l : Launch) (D : va_G) (c : Nat → ClassId) (a_this : Nat) (a_knows : Nat) (a_kind : Nat) (a_on : Nat) (a_has : Nat) (ev : Nat → Nat) (sz : Nat) (x_members : Int32) (x_leeches : Int32) (x_basin : Int32) (x_minute : Int32) (x_has : Nat → Int32) (x_kind : Nat → Int32) (v1 : Int32) (n : Nat) (r_ret : Int32) (h : fX3_isSated n x_has x_kind v1 = some (r_ret)) : Met l yX3_isSated wsX3_isSated ({ frames := 1, cells := 0, slots := 0, locals := 20 } : Room) (xPc D (xT c) sz [.ref a_this, .int v1] (wX3_isSated c a_this a_knows a_kind a_on a_has ev x_members x_leeches x_basin x_minute x_has x_kind) (xV ev (va_A (wX3_isSated c a_this a_knows a_kind a_on a_has ev x_members x_leeches x_basin x_minute x_has x_kind) sz))) (xQi D (xT c) (va_A (wX3_isSated c a_this a_knows a_kind a_on a_has ev x_members x_leeches x_basin x_minute x_has x_kind) sz) r_ret (wX3_isSated c a_this a_knows a_kind a_on a_has ev x_members x_leeches x_basin x_minute x_has x_kind)) 0 0 (va_A (wX3_isSated c a_this a_knows a_kind a_on a_has ev x_members x_leeches x_basin x_minute x_has x_kind) sz) := by
  refine Met.ofW (cc := cX3_isSated) (maxL := 2) (ret := (some .boolean)) (by decide) rfl ?_
  intro p e s m args below meth cd s₁ B hml hv
  obtain ⟨rfl, hsz, hP, hK, hD0, hV⟩ := hv
  subst hsz
  have hl := lv_entry [.ref a_this, .int v1] (n := 2) (Nat.le_of_ble_eq_true rfl)
  rw [lg_entry_eq]
  exact kX3_isSated_0 (A := va_A (wX3_isSated c a_this a_knows a_kind a_on a_has ev x_members x_leeches x_basin x_minute x_has x_kind) s.heap.size) ⟨B.exec, B.bytes, hml, B.returns, findClass_of_methodNamed B.named, atoms_spec (ws := wsX3_isSated) B.pre, B.notSynchronized, fun q h => Or.inr h, hK⟩ a_this a_knows a_kind a_on a_has ev x_members x_leeches x_basin x_minute x_has x_kind n r_ret hV v1 h s.heap [] _ hP hD0.self va_S.rf hl

abbrev wX3_nextFact (c : Nat → ClassId) : va_W := []
def GX3_nextFact (p : Program) (l : Launch) (e : Env) (s : State) (m : MethodId) (args : Array Value) (below : List Frame) (meth : Method) (cd : Code) (D : va_G) (c : Nat → ClassId) (A : Nat → Prop) (r_ret : Int32) (pc : Nat) (st : List Value) (loc : List (Nat × Value)) : Prop :=
  ∀ (H : Heap) (locs : List Loc) (ls : Array Slot), va_P D vwCl (wX3_nextFact c) H → va_D A (wX3_nextFact c) → va_S A s.heap H locs → lv_has ls 3 loc → W p l e ({ frames := 1, cells := 0, slots := 0, locals := 21 } : Room) s m args below meth cd H locs 0 0 (MQ below (xQi D (xT c) A r_ret (wX3_nextFact c)) args s 0 0 A) (F0 m pc ls st)
set_option maxHeartbeats 4000000 in
set_option maxRecDepth 100000 in
theorem kX3_nextFact_34 {p : Program} {l : Launch} {e : Env} {s : State} {m : MethodId} {args : Array Value} {below : List Frame} {meth : Method} {cd : Code} {D : va_G} {c : Nat → ClassId} {A : Nat → Prop} (E0 : xE p s m args meth cd D (xT c) A RX3 cX3_nextFact 3 (some .int) wsX3_nextFact) (n : Nat) (r_ret : Int32) (t0 : Int32) (hr : fX3_nextFact_34 n t0 = some (r_ret)) : GX3_nextFact p l e s m args below meth cd D c A r_ret 34 [.int t0] [] := by
  have E1 := E0
  obtain ⟨hx, hb, hml, hret, hown, hts, hlocks, hA, hK⟩ := E1
  intro H locs ls hP hD hS hl
  unfold fX3_nextFact_34 at hr
  have e0 := x_some hr
  subst e0
  exact x_reti hx hb hret hlocks hP hD hK hS dX3_nextFact_34
set_option maxHeartbeats 4000000 in
set_option maxRecDepth 100000 in
theorem kX3_nextFact_15 {p : Program} {l : Launch} {e : Env} {s : State} {m : MethodId} {args : Array Value} {below : List Frame} {meth : Method} {cd : Code} {D : va_G} {c : Nat → ClassId} {A : Nat → Prop} (E0 : xE p s m args meth cd D (xT c) A RX3 cX3_nextFact 3 (some .int) wsX3_nextFact) (n : Nat) (r_ret : Int32) (v1 : Int32) (t0 : Int32) (hr : fX3_nextFact_15 n v1 t0 = some (r_ret)) : GX3_nextFact p l e s m args below meth cd D c A r_ret 15 [.int t0] [(1, .int v1)] := by
  have E1 := E0
  obtain ⟨hx, hb, hml, hret, hown, hts, hlocks, hA, hK⟩ := E1
  intro H locs ls hP hD hS hl
  unfold fX3_nextFact_15 at hr
  refine lv_istore_n (lv' := [(2, .int t0), (1, .int v1)]) hx hb dX3_nextFact_15 rfl hl (by decide) rfl (fun ls hl => ?_)
  refine lv_iload_n hx hb dX3_nextFact_16 rfl (lv_at hl 0 rfl) ?_
  refine lv_if_eq (tgt := 27) hx hb dX3_nextFact_17 (by decide) (fun c_1 => ?_) (fun c_1 => ?_)
  · have hr := x_ift hr c_1
    refine lv_bipush (v := 31) hx hb dX3_nextFact_27 (by decide) ?_
    refine lv_iload_n hx hb dX3_nextFact_29 rfl (lv_at hl 1 rfl) ?_
    obtain ⟨q2_0, hc2, hr⟩ := x_bind hr
    refine x_runi (wr := []) (wf := []) (x_goS (As := [.int v1]) (rest := [.int 31]) ⟨hx, hb, hml, hown, hts⟩ (mJ6_numberOfLeadingZeros_0f7a4 l D c H.size v1 n _ hc2) (va_cwS 1 hts gX3_nextFact_J6_numberOfLeadingZeros_0f7a4 rfl rfl rfl (by decide +kernel) ⟨Nat.le_of_ble_eq_true rfl, Nat.le_of_ble_eq_true rfl⟩) xB_t hP hD hK [] rfl (by decide) (fun _ _ _ => trivial) rfl hl.1 rfl (Nat.le_of_ble_eq_true rfl) dX3_nextFact_30) hP hD hS hA [] [] [] rfl rfl rfl ⟨by decide, by decide, by decide⟩ (fun H locs hP hD hS => ?_)
    refine lv_isub hx hb dX3_nextFact_33 ?_
    exact kX3_nextFact_34 E0 n r_ret (31 - q2_0) hr H locs ls hP hD hS (lv_sub hl [] rfl)
  · have hr := x_iff hr c_1
    refine lv_iload_n hx hb dX3_nextFact_20 rfl (lv_at hl 1 rfl) ?_
    obtain ⟨q3_0, hc3, hr⟩ := x_bind hr
    refine x_runi (wr := []) (wf := []) (x_goS (As := [.int v1]) (rest := []) ⟨hx, hb, hml, hown, hts⟩ (mJ6_numberOfTrailingZeros_0f7a4 l D c H.size v1 n _ hc3) (va_cwS 1 hts gX3_nextFact_J6_numberOfTrailingZeros_0f7a4 rfl rfl rfl (by decide +kernel) ⟨Nat.le_of_ble_eq_true rfl, Nat.le_of_ble_eq_true rfl⟩) xB_t hP hD hK [] rfl (by decide) (fun _ _ _ => trivial) rfl hl.1 rfl (Nat.le_of_ble_eq_true rfl) dX3_nextFact_21) hP hD hS hA [] [] [] rfl rfl rfl ⟨by decide, by decide, by decide⟩ (fun H locs hP hD hS => ?_)
    refine lv_goto (tgt := 34) hx hb dX3_nextFact_24 (by decide) ?_
    exact kX3_nextFact_34 E0 n r_ret q3_0 hr H locs ls hP hD hS (lv_sub hl [] rfl)
set_option maxHeartbeats 4000000 in
set_option maxRecDepth 100000 in
theorem kX3_nextFact_10 {p : Program} {l : Launch} {e : Env} {s : State} {m : MethodId} {args : Array Value} {below : List Frame} {meth : Method} {cd : Code} {D : va_G} {c : Nat → ClassId} {A : Nat → Prop} (E0 : xE p s m args meth cd D (xT c) A RX3 cX3_nextFact 3 (some .int) wsX3_nextFact) (n : Nat) (r_ret : Int32) (v1 : Int32) (hr : fX3_nextFact_10 n v1 = some (r_ret)) : GX3_nextFact p l e s m args below meth cd D c A r_ret 10 [] [(1, .int v1)] := by
  have E1 := E0
  obtain ⟨hx, hb, hml, hret, hown, hts, hlocks, hA, hK⟩ := E1
  intro H locs ls hP hD hS hl
  unfold fX3_nextFact_10 at hr
  refine lv_iconst (v := 1) hx hb dX3_nextFact_10 (by decide) ?_
  refine lv_goto (tgt := 15) hx hb dX3_nextFact_11 (by decide) ?_
  exact kX3_nextFact_15 E0 n r_ret v1 1 hr H locs ls hP hD hS (lv_sub hl [0] rfl)
set_option maxHeartbeats 4000000 in
set_option maxRecDepth 100000 in
theorem kX3_nextFact_0 {p : Program} {l : Launch} {e : Env} {s : State} {m : MethodId} {args : Array Value} {below : List Frame} {meth : Method} {cd : Code} {D : va_G} {c : Nat → ClassId} {A : Nat → Prop} (E0 : xE p s m args meth cd D (xT c) A RX3 cX3_nextFact 3 (some .int) wsX3_nextFact) (n : Nat) (r_ret : Int32) (v0 : Int32) (v1 : Int32) (hr : fX3_nextFact n v0 v1 = some (r_ret)) : GX3_nextFact p l e s m args below meth cd D c A r_ret 0 [] [(0, .int v0), (1, .int v1)] := by
  have E1 := E0
  obtain ⟨hx, hb, hml, hret, hown, hts, hlocks, hA, hK⟩ := E1
  intro H locs ls hP hD hS hl
  unfold fX3_nextFact at hr
  refine lv_iload_n hx hb dX3_nextFact_0 rfl (lv_at hl 0 rfl) ?_
  refine lv_iconst (v := 3) hx hb dX3_nextFact_1 (by decide) ?_
  refine lv_icmp_eq (tgt := 10) hx hb dX3_nextFact_2 (by decide) (fun c_1 => ?_) (fun c_1 => ?_)
  · have hr := x_ift hr c_1
    exact kX3_nextFact_10 E0 n r_ret v1 hr H locs ls hP hD hS (lv_sub hl [1] rfl)
  · have hr := x_iff hr c_1
    refine lv_iload_n hx hb dX3_nextFact_5 rfl (lv_at hl 0 rfl) ?_
    refine lv_iconst (v := 4) hx hb dX3_nextFact_6 (by decide) ?_
    refine lv_icmp_ne (tgt := 14) hx hb dX3_nextFact_7 (by decide) (fun c_2 => ?_) (fun c_2 => ?_)
    · have hr := x_iff hr c_2
      refine lv_iconst (v := 0) hx hb dX3_nextFact_14 (by decide) ?_
      exact kX3_nextFact_15 E0 n r_ret v1 0 hr H locs ls hP hD hS (lv_sub hl [1] rfl)
    · have hr := x_ift hr c_2
      exact kX3_nextFact_10 E0 n r_ret v1 hr H locs ls hP hD hS (lv_sub hl [1] rfl)
set_option maxHeartbeats 4000000 in
set_option maxRecDepth 100000 in
theorem mX3_nextFact (l : Launch) (D : va_G) (c : Nat → ClassId) (sz : Nat) (v0 : Int32) (v1 : Int32) (n : Nat) (r_ret : Int32) (h : fX3_nextFact n v0 v1 = some (r_ret)) : Met l yX3_nextFact wsX3_nextFact ({ frames := 1, cells := 0, slots := 0, locals := 21 } : Room) (xPc D (xT c) sz [.int v0, .int v1] (wX3_nextFact c) (fun _ => True)) (xQi D (xT c) (va_A (wX3_nextFact c) sz) r_ret (wX3_nextFact c)) 0 0 (va_A (wX3_nextFact c) sz) := by
  refine Met.ofW (cc := cX3_nextFact) (maxL := 3) (ret := (some .int)) (by decide) rfl ?_
  intro p e s m args below meth cd s₁ B hml hv
  obtain ⟨rfl, hsz, hP, hK, hD0, hV⟩ := hv
  subst hsz
  have hl := lv_entry [.int v0, .int v1] (n := 3) (Nat.le_of_ble_eq_true rfl)
  rw [lg_entry_eq]
  exact kX3_nextFact_0 (A := va_A (wX3_nextFact c) s.heap.size) ⟨B.exec, B.bytes, hml, B.returns, findClass_of_methodNamed B.named, atoms_spec (ws := wsX3_nextFact) B.pre, B.notSynchronized, fun q h => Or.inr h, hK⟩ n r_ret v0 v1 h s.heap [] _ hP hD0.self va_S.rf hl

abbrev wX3_feed (c : Nat → ClassId) (a_this : Nat) (a_p0 : Nat) (a_knows : Nat) (a_kind : Nat) (a_on : Nat) (a_has : Nat) (a_p0_leans : Nat) (a_p0_all : Nat) (a_p0_lostWith : Nat) (ev : Nat → Nat) (x_members : Int32) (x_leeches : Int32) (x_basin : Int32) (x_minute : Int32) (x_p0_size : Int32) (x_kind : Nat → Int32) (x_p0_lostWith : Nat → Int32) (x_has : Nat → Int32) (x_knows : Nat → Int32) (x_on : Nat → Int32) : va_W := [(a_this, .inr (3, [.int x_members, .int x_leeches, .int x_basin, .int x_minute, .ref a_knows, .ref a_kind, .ref a_on, .ref a_has])), (a_kind, .inl (c 0, 5, .inl x_kind)), (a_has, .inl (c 0, 5, .inl x_has)), (a_knows, .inl (c 0, 4, .inl x_knows)), (a_p0, .inr (0, [.int x_p0_size, .ref a_p0_leans, .ref a_p0_all, .ref a_p0_lostWith])), (a_p0_lostWith, .inl (c 0, 12, .inl x_p0_lostWith)), (a_on, .inl (c 0, 5, .inl x_on))]
def GX3_feed (p : Program) (l : Launch) (e : Env) (s : State) (m : MethodId) (args : Array Value) (below : List Frame) (meth : Method) (cd : Code) (D : va_G) (c : Nat → ClassId) (A : Nat → Prop) (a_this : Nat) (a_p0 : Nat) (a_knows : Nat) (a_kind : Nat) (a_on : Nat) (a_has : Nat) (a_p0_leans : Nat) (a_p0_all : Nat) (a_p0_lostWith : Nat) (ev : Nat → Nat) (x_members : Int32) (x_leeches : Int32) (x_basin : Int32) (x_minute : Int32) (x_p0_size : Int32) (x_kind : Nat → Int32) (x_p0_lostWith : Nat → Int32) (rm_has : Nat → Int32) (rm_knows : Nat → Int32) (rm_on : Nat → Int32) (pc : Nat) (st : List Value) (loc : List (Nat × Value)) (x_has : Nat → Int32) (x_knows : Nat → Int32) (x_on : Nat → Int32) : Prop :=
  ∀ (H : Heap) (locs : List Loc) (ls : Array Slot), va_P D vwCl (wX3_feed c a_this a_p0 a_knows a_kind a_on a_has a_p0_leans a_p0_all a_p0_lostWith ev x_members x_leeches x_basin x_minute x_p0_size x_kind x_p0_lostWith x_has x_knows x_on) H → va_D A (wX3_feed c a_this a_p0 a_knows a_kind a_on a_has a_p0_leans a_p0_all a_p0_lostWith ev x_members x_leeches x_basin x_minute x_p0_size x_kind x_p0_lostWith x_has x_knows x_on) → va_S A s.heap H locs → lv_has ls 7 loc → W p l e ({ frames := 2, cells := 0, slots := 0, locals := 43 } : Room) s m args below meth cd H locs 0 0 (MQ below (xQv D (xT c) A (wX3_feed c a_this a_p0 a_knows a_kind a_on a_has a_p0_leans a_p0_all a_p0_lostWith ev x_members x_leeches x_basin x_minute x_p0_size x_kind x_p0_lostWith rm_has rm_knows rm_on)) args s 0 0 A) (F0 m pc ls st)
theorem lkX3_feed_f15 : Cond.fieldLink RX3 15 "LeechClub$Room" "kind" "[I" ∈ wsX3_feed := by decide +kernel
theorem lkX3_feed_f18 : Cond.fieldLink RX3 18 "LeechClub$Room" "on" "[I" ∈ wsX3_feed := by decide +kernel
theorem lkX3_feed_f21 : Cond.fieldLink RX3 21 "LeechClub$Room" "has" "[I" ∈ wsX3_feed := by decide +kernel
theorem lkX3_feed_f75 : Cond.fieldLink RX3 75 "LeechClub$Facts" "lostWith" "[I" ∈ wsX3_feed := by decide +kernel
theorem lkX3_feed_f9 : Cond.fieldLink RX3 9 "LeechClub$Room" "knows" "[I" ∈ wsX3_feed := by decide +kernel
theorem inX3_feed_X0 : ∀ w ∈ wsX00, w ∈ wsX3_feed := by decide +kernel
theorem inX3_feed_X3 : ∀ w ∈ wsX30, w ∈ wsX3_feed := by decide +kernel
set_option maxHeartbeats 4000000 in
set_option maxRecDepth 100000 in
theorem kX3_feed_108 {p : Program} {l : Launch} {e : Env} {s : State} {m : MethodId} {args : Array Value} {below : List Frame} {meth : Method} {cd : Code} {D : va_G} {c : Nat → ClassId} {A : Nat → Prop} (E0 : xE p s m args meth cd D (xT c) A RX3 cX3_feed 7 none wsX3_feed) (a_this : Nat) (a_p0 : Nat) (a_knows : Nat) (a_kind : Nat) (a_on : Nat) (a_has : Nat) (a_p0_leans : Nat) (a_p0_all : Nat) (a_p0_lostWith : Nat) (ev : Nat → Nat) (x_members : Int32) (x_leeches : Int32) (x_basin : Int32) (x_minute : Int32) (x_p0_size : Int32) (x_kind : Nat → Int32) (x_p0_lostWith : Nat → Int32) (n : Nat) (rm_has : Nat → Int32) (rm_knows : Nat → Int32) (rm_on : Nat → Int32) (hV : xV ev A s) (x_has : Nat → Int32) (x_knows : Nat → Int32) (x_on : Nat → Int32) (hr : fX3_feed_108 n x_kind x_p0_lostWith x_has x_knows x_on = some (rm_has, rm_knows, rm_on)) : GX3_feed p l e s m args below meth cd D c A a_this a_p0 a_knows a_kind a_on a_has a_p0_leans a_p0_all a_p0_lostWith ev x_members x_leeches x_basin x_minute x_p0_size x_kind x_p0_lostWith rm_has rm_knows rm_on 108 [] [] x_has x_knows x_on := by
  have E1 := E0
  obtain ⟨hx, hb, hml, hret, hown, hts, hlocks, hA, hK⟩ := E1
  have hVV := hV
  obtain ⟨hn_RX7_9, hn_RX6_17, hn_RX6_24, hn_RX7_18, hn_RX7_25, hn_RX7_45, hn_RX7_52, hn_RX7_65, hn_RX7_70, hn_RX0_31, hn_RX3_53, hn_RX2_57, hn_RX3_65, hn_RX3_86, hz_TAKES, ht_TAKES, hz_HAS_ROOM, ht_HAS_ROOM, hz_SUCH, ht_SUCH, hz_FIRST_FIGURE, ht_FIRST_FIGURE, hz_compact, hz_sioobe, ho_Room, ho_Slate, ho_grid, hstr, hs_0, hs_1, hs_2, hs_3, hs_4, hs_5, hs_6, hs_7, hs_8⟩ := hVV
  intro H locs ls hP hD hS hl
  unfold fX3_feed_108 at hr
  have g0 := x_some hr
  have e0 := x_p1 g0
  have g1 := x_p2 g0
  have e1 := x_p1 g1
  have e2 := x_p2 g1
  subst e0
  subst e1
  subst e2
  exact x_retv hx hb hret hlocks hP hD hK hS dX3_feed_108
set_option maxHeartbeats 4000000 in
set_option maxRecDepth 100000 in
theorem kX3_feed_93 {p : Program} {l : Launch} {e : Env} {s : State} {m : MethodId} {args : Array Value} {below : List Frame} {meth : Method} {cd : Code} {D : va_G} {c : Nat → ClassId} {A : Nat → Prop} (E0 : xE p s m args meth cd D (xT c) A RX3 cX3_feed 7 none wsX3_feed) (a_this : Nat) (a_p0 : Nat) (a_knows : Nat) (a_kind : Nat) (a_on : Nat) (a_has : Nat) (a_p0_leans : Nat) (a_p0_all : Nat) (a_p0_lostWith : Nat) (ev : Nat → Nat) (x_members : Int32) (x_leeches : Int32) (x_basin : Int32) (x_minute : Int32) (x_p0_size : Int32) (x_kind : Nat → Int32) (x_p0_lostWith : Nat → Int32) (n : Nat) (rm_has : Nat → Int32) (rm_knows : Nat → Int32) (rm_on : Nat → Int32) (hV : xV ev A s) (x_has : Nat → Int32) (x_knows : Nat → Int32) (x_on : Nat → Int32) (v2 : Int32) (hr : fX3_feed_93 n x_kind x_p0_lostWith x_has x_knows x_on v2 = some (rm_has, rm_knows, rm_on)) : GX3_feed p l e s m args below meth cd D c A a_this a_p0 a_knows a_kind a_on a_has a_p0_leans a_p0_all a_p0_lostWith ev x_members x_leeches x_basin x_minute x_p0_size x_kind x_p0_lostWith rm_has rm_knows rm_on 93 [] [(0, .ref a_this), (2, .int v2)] x_has x_knows x_on := by
  have E1 := E0
  obtain ⟨hx, hb, hml, hret, hown, hts, hlocks, hA, hK⟩ := E1
  have hVV := hV
  obtain ⟨hn_RX7_9, hn_RX6_17, hn_RX6_24, hn_RX7_18, hn_RX7_25, hn_RX7_45, hn_RX7_52, hn_RX7_65, hn_RX7_70, hn_RX0_31, hn_RX3_53, hn_RX2_57, hn_RX3_65, hn_RX3_86, hz_TAKES, ht_TAKES, hz_HAS_ROOM, ht_HAS_ROOM, hz_SUCH, ht_SUCH, hz_FIRST_FIGURE, ht_FIRST_FIGURE, hz_compact, hz_sioobe, ho_Room, ho_Slate, ho_grid, hstr, hs_0, hs_1, hs_2, hs_3, hs_4, hs_5, hs_6, hs_7, hs_8⟩ := hVV
  intro H locs ls hP hD hS hl
  unfold fX3_feed_93 at hr
  refine lv_aload_n hx hb dX3_feed_93 rfl (lv_at hl 0 rfl) ?_
  refine lv_iload_n hx hb dX3_feed_94 rfl (lv_at hl 1 rfl) ?_
  obtain ⟨q1_0, hc1, hr⟩ := x_bind hr
  refine x_runi (wr := [(a_knows, .inl (c 0, 4, .inl x_knows)), (a_p0, .inr (0, [.int x_p0_size, .ref a_p0_leans, .ref a_p0_all, .ref a_p0_lostWith])), (a_p0_lostWith, .inl (c 0, 12, .inl x_p0_lostWith)), (a_on, .inl (c 0, 5, .inl x_on))]) (wf := [(a_this, .inr (3, [.int x_members, .int x_leeches, .int x_basin, .int x_minute, .ref a_knows, .ref a_kind, .ref a_on, .ref a_has])), (a_kind, .inl (c 0, 5, .inl x_kind)), (a_has, .inl (c 0, 5, .inl x_has)), (a_knows, .inl (c 0, 4, .inl x_knows)), (a_p0, .inr (0, [.int x_p0_size, .ref a_p0_leans, .ref a_p0_all, .ref a_p0_lostWith])), (a_p0_lostWith, .inl (c 0, 12, .inl x_p0_lostWith)), (a_on, .inl (c 0, 5, .inl x_on))]) (x_goV (As := [.int v2]) (rest := []) ⟨hx, hb, hml, hown, hts⟩ (mX3_isSated l D c a_this a_knows a_kind a_on a_has ev H.size x_members x_leeches x_basin x_minute x_has x_kind v2 n _ hc1) (cwV 1 hts gX3_feed_X3_isSated rfl rfl rfl (by decide +kernel) ⟨Nat.le_of_ble_eq_true rfl, Nat.le_of_ble_eq_true rfl⟩) xV_b hP hD hK [0, 2, 1] rfl (by decide) (fun U hU hW => xV_call hV hS (va_free hD hS hA [0, 2, 1] rfl) hU hW) 0 3 rfl rfl rfl rfl hl.1 rfl (Nat.le_of_ble_eq_true rfl) dX3_feed_95) hP hD hS hA [0, 2, 1] [3, 4, 5, 6] [4, 6, 5, 0, 1, 2, 3] rfl rfl rfl ⟨by decide, by decide, by decide⟩ (fun H locs hP hD hS => ?_)
  refine lv_if_eq (tgt := 108) hx hb dX3_feed_98 (by decide) (fun c_2 => ?_) (fun c_2 => ?_)
  · have hr := x_ift hr c_2
    exact kX3_feed_108 E0 a_this a_p0 a_knows a_kind a_on a_has a_p0_leans a_p0_all a_p0_lostWith ev x_members x_leeches x_basin x_minute x_p0_size x_kind x_p0_lostWith n rm_has rm_knows rm_on hV x_has x_knows x_on hr H locs ls hP hD hS (lv_sub hl [] rfl)
  · have hr := x_iff hr c_2
    refine lv_aload_n hx hb dX3_feed_101 rfl (lv_at hl 0 rfl) ?_
    refine va_get (D := D) (ci := 3) (v := .ref a_on) (C := RX3) (T := TX3) (N := 8) hx hb hts inX3_feed_X3 hown hK hP 0 rfl rfl 6 (by decide) (hts _ lkX3_feed_f18) (fun _ h9 => h9) rfl dX3_feed_102 ?_
    refine lv_iload_n hx hb dX3_feed_105 rfl (lv_at hl 1 rfl) ?_
    refine lv_iconst (v := (-1)) hx hb dX3_feed_106 (by decide) ?_
    obtain ⟨b_3, hr⟩ := x_chk hr
    refine va_iast hx hb hK hP hD hS 6 0 rfl rfl b_3 dX3_feed_107 (fun H locs hP hD hS => ?_)
    have hP : va_P D vwCl [(a_this, .inr (3, [.int x_members, .int x_leeches, .int x_basin, .int x_minute, .ref a_knows, .ref a_kind, .ref a_on, .ref a_has])), (a_kind, .inl (c 0, 5, .inl x_kind)), (a_has, .inl (c 0, 5, .inl x_has)), (a_knows, .inl (c 0, 4, .inl x_knows)), (a_p0, .inr (0, [.int x_p0_size, .ref a_p0_leans, .ref a_p0_all, .ref a_p0_lostWith])), (a_p0_lostWith, .inl (c 0, 12, .inl x_p0_lostWith)), (a_on, .inl (c 0, 5, .inl (upd x_on v2.toNatClampNeg (-1))))] H := hP
    have hD : va_D A [(a_this, .inr (3, [.int x_members, .int x_leeches, .int x_basin, .int x_minute, .ref a_knows, .ref a_kind, .ref a_on, .ref a_has])), (a_kind, .inl (c 0, 5, .inl x_kind)), (a_has, .inl (c 0, 5, .inl x_has)), (a_knows, .inl (c 0, 4, .inl x_knows)), (a_p0, .inr (0, [.int x_p0_size, .ref a_p0_leans, .ref a_p0_all, .ref a_p0_lostWith])), (a_p0_lostWith, .inl (c 0, 12, .inl x_p0_lostWith)), (a_on, .inl (c 0, 5, .inl (upd x_on v2.toNatClampNeg (-1))))] := hD
    exact kX3_feed_108 E0 a_this a_p0 a_knows a_kind a_on a_has a_p0_leans a_p0_all a_p0_lostWith ev x_members x_leeches x_basin x_minute x_p0_size x_kind x_p0_lostWith n rm_has rm_knows rm_on hV x_has x_knows (upd x_on v2.toNatClampNeg (-1)) hr H locs ls hP hD hS (lv_sub hl [] rfl)
set_option maxHeartbeats 4000000 in
set_option maxRecDepth 100000 in
theorem kX3_feed_15 {p : Program} {l : Launch} {e : Env} {s : State} {m : MethodId} {args : Array Value} {below : List Frame} {meth : Method} {cd : Code} {D : va_G} {c : Nat → ClassId} {A : Nat → Prop} (E0 : xE p s m args meth cd D (xT c) A RX3 cX3_feed 7 none wsX3_feed) (a_this : Nat) (a_p0 : Nat) (a_knows : Nat) (a_kind : Nat) (a_on : Nat) (a_has : Nat) (a_p0_leans : Nat) (a_p0_all : Nat) (a_p0_lostWith : Nat) (ev : Nat → Nat) (x_members : Int32) (x_leeches : Int32) (x_basin : Int32) (x_minute : Int32) (x_p0_size : Int32) (x_kind : Nat → Int32) (x_p0_lostWith : Nat → Int32) (n : Nat) (rm_has : Nat → Int32) (rm_knows : Nat → Int32) (rm_on : Nat → Int32) (hV : xV ev A s) : ∀ (k : Nat) (x_has : Nat → Int32) (x_knows : Nat → Int32) (x_on : Nat → Int32) (v2 : Int32) (v3 : Int32) (v4 : Int32) (v5 : Int32), fX3_feed_15 n x_kind x_p0_lostWith k x_has x_knows x_on v2 v3 v4 v5 = some (rm_has, rm_knows, rm_on) → GX3_feed p l e s m args below meth cd D c A a_this a_p0 a_knows a_kind a_on a_has a_p0_leans a_p0_all a_p0_lostWith ev x_members x_leeches x_basin x_minute x_p0_size x_kind x_p0_lostWith rm_has rm_knows rm_on 15 [] [(0, .ref a_this), (1, .ref a_p0), (2, .int v2), (3, .int v3), (4, .int v4), (5, .int v5)] x_has x_knows x_on := by
  have E1 := E0
  obtain ⟨hx, hb, hml, hret, hown, hts, hlocks, hA, hK⟩ := E1
  have hVV := hV
  obtain ⟨hn_RX7_9, hn_RX6_17, hn_RX6_24, hn_RX7_18, hn_RX7_25, hn_RX7_45, hn_RX7_52, hn_RX7_65, hn_RX7_70, hn_RX0_31, hn_RX3_53, hn_RX2_57, hn_RX3_65, hn_RX3_86, hz_TAKES, ht_TAKES, hz_HAS_ROOM, ht_HAS_ROOM, hz_SUCH, ht_SUCH, hz_FIRST_FIGURE, ht_FIRST_FIGURE, hz_compact, hz_sioobe, ho_Room, ho_Slate, ho_grid, hstr, hs_0, hs_1, hs_2, hs_3, hs_4, hs_5, hs_6, hs_7, hs_8⟩ := hVV
  intro k
  induction k with
  | zero => intro x_has x_knows x_on v2 v3 v4 v5 hr; cases hr
  | succ k h_15 =>
    intro x_has x_knows x_on v2 v3 v4 v5 hr H locs ls hP hD hS hl
    unfold fX3_feed_15 at hr
    refine lv_iload hx hb dX3_feed_15 (lv_at hl 5 rfl) ?_
    refine lv_iload hx hb dX3_feed_17 (lv_at hl 4 rfl) ?_
    refine lv_icmp_ge (tgt := 93) hx hb dX3_feed_19 (by decide) (fun c_1 => ?_) (fun c_1 => ?_)
    · have hr := x_ift hr c_1
      exact kX3_feed_93 E0 a_this a_p0 a_knows a_kind a_on a_has a_p0_leans a_p0_all a_p0_lostWith ev x_members x_leeches x_basin x_minute x_p0_size x_kind x_p0_lostWith n rm_has rm_knows rm_on hV x_has x_knows x_on v2 hr H locs ls hP hD hS (lv_sub hl [0, 2] rfl)
    · have hr := x_iff hr c_1
      refine lv_aload_n hx hb dX3_feed_22 rfl (lv_at hl 0 rfl) ?_
      refine lv_iload_n hx hb dX3_feed_23 rfl (lv_at hl 2 rfl) ?_
      obtain ⟨q2_0, hc2, hr⟩ := x_bind hr
      refine x_runi (wr := [(a_knows, .inl (c 0, 4, .inl x_knows)), (a_p0, .inr (0, [.int x_p0_size, .ref a_p0_leans, .ref a_p0_all, .ref a_p0_lostWith])), (a_p0_lostWith, .inl (c 0, 12, .inl x_p0_lostWith)), (a_on, .inl (c 0, 5, .inl x_on))]) (wf := [(a_this, .inr (3, [.int x_members, .int x_leeches, .int x_basin, .int x_minute, .ref a_knows, .ref a_kind, .ref a_on, .ref a_has])), (a_kind, .inl (c 0, 5, .inl x_kind)), (a_has, .inl (c 0, 5, .inl x_has)), (a_knows, .inl (c 0, 4, .inl x_knows)), (a_p0, .inr (0, [.int x_p0_size, .ref a_p0_leans, .ref a_p0_all, .ref a_p0_lostWith])), (a_p0_lostWith, .inl (c 0, 12, .inl x_p0_lostWith)), (a_on, .inl (c 0, 5, .inl x_on))]) (x_goV (As := [.int v2]) (rest := []) ⟨hx, hb, hml, hown, hts⟩ (mX3_isSated l D c a_this a_knows a_kind a_on a_has ev H.size x_members x_leeches x_basin x_minute x_has x_kind v2 n _ hc2) (cwV 1 hts gX3_feed_X3_isSated rfl rfl rfl (by decide +kernel) ⟨Nat.le_of_ble_eq_true rfl, Nat.le_of_ble_eq_true rfl⟩) xV_b hP hD hK [0, 2, 1] rfl (by decide) (fun U hU hW => xV_call hV hS (va_free hD hS hA [0, 2, 1] rfl) hU hW) 0 3 rfl rfl rfl rfl hl.1 rfl (Nat.le_of_ble_eq_true rfl) dX3_feed_24) hP hD hS hA [0, 2, 1] [3, 4, 5, 6] [4, 6, 5, 0, 1, 2, 3] rfl rfl rfl ⟨by decide, by decide, by decide⟩ (fun H locs hP hD hS => ?_)
      refine lv_if_ne (tgt := 93) hx hb dX3_feed_27 (by decide) (fun c_3 => ?_) (fun c_3 => ?_)
      · have hr := x_iff hr c_3
        exact kX3_feed_93 E0 a_this a_p0 a_knows a_kind a_on a_has a_p0_leans a_p0_all a_p0_lostWith ev x_members x_leeches x_basin x_minute x_p0_size x_kind x_p0_lostWith n rm_has rm_knows rm_on hV x_has x_knows x_on v2 hr H locs ls hP hD hS (lv_sub hl [0, 2] rfl)
      · have hr := x_ift hr c_3
        refine lv_aload_n hx hb dX3_feed_30 rfl (lv_at hl 0 rfl) ?_
        refine va_get (D := D) (ci := 3) (v := .ref a_knows) (C := RX3) (T := TX3) (N := 8) hx hb hts inX3_feed_X3 hown hK hP 0 rfl rfl 4 (by decide) (hts _ lkX3_feed_f9) (fun _ h9 => h9) rfl dX3_feed_31 ?_
        refine lv_iload_n hx hb dX3_feed_34 rfl (lv_at hl 3 rfl) ?_
        obtain ⟨b_4, hr⟩ := x_chk hr
        refine va_iald hx hb hK hP 3 0 rfl rfl b_4 dX3_feed_35 ?_
        refine lv_if_eq (tgt := 93) hx hb dX3_feed_36 (by decide) (fun c_5 => ?_) (fun c_5 => ?_)
        · have hr := x_ift hr c_5
          exact kX3_feed_93 E0 a_this a_p0 a_knows a_kind a_on a_has a_p0_leans a_p0_all a_p0_lostWith ev x_members x_leeches x_basin x_minute x_p0_size x_kind x_p0_lostWith n rm_has rm_knows rm_on hV x_has x_knows x_on v2 hr H locs ls hP hD hS (lv_sub hl [0, 2] rfl)
        · have hr := x_iff hr c_5
          refine lv_aload_n hx hb dX3_feed_39 rfl (lv_at hl 0 rfl) ?_
          refine va_get (D := D) (ci := 3) (v := .ref a_kind) (C := RX3) (T := TX3) (N := 8) hx hb hts inX3_feed_X3 hown hK hP 0 rfl rfl 5 (by decide) (hts _ lkX3_feed_f15) (fun _ h9 => h9) rfl dX3_feed_40 ?_
          refine lv_iload_n hx hb dX3_feed_43 rfl (lv_at hl 2 rfl) ?_
          obtain ⟨b_6, hr⟩ := x_chk hr
          refine va_iald hx hb hK hP 1 0 rfl rfl b_6 dX3_feed_44 ?_
          refine lv_aload_n hx hb dX3_feed_45 rfl (lv_at hl 0 rfl) ?_
          refine va_get (D := D) (ci := 3) (v := .ref a_knows) (C := RX3) (T := TX3) (N := 8) hx hb hts inX3_feed_X3 hown hK hP 0 rfl rfl 4 (by decide) (hts _ lkX3_feed_f9) (fun _ h9 => h9) rfl dX3_feed_46 ?_
          refine lv_iload_n hx hb dX3_feed_49 rfl (lv_at hl 3 rfl) ?_
          obtain ⟨b_7, hr⟩ := x_chk hr
          refine va_iald hx hb hK hP 3 0 rfl rfl b_7 dX3_feed_50 ?_
          obtain ⟨q8_0, hc8, hr⟩ := x_bind hr
          refine x_runi (wr := [(a_this, .inr (3, [.int x_members, .int x_leeches, .int x_basin, .int x_minute, .ref a_knows, .ref a_kind, .ref a_on, .ref a_has])), (a_kind, .inl (c 0, 5, .inl x_kind)), (a_has, .inl (c 0, 5, .inl x_has)), (a_knows, .inl (c 0, 4, .inl x_knows)), (a_p0, .inr (0, [.int x_p0_size, .ref a_p0_leans, .ref a_p0_all, .ref a_p0_lostWith])), (a_p0_lostWith, .inl (c 0, 12, .inl x_p0_lostWith)), (a_on, .inl (c 0, 5, .inl x_on))]) (wf := [(a_this, .inr (3, [.int x_members, .int x_leeches, .int x_basin, .int x_minute, .ref a_knows, .ref a_kind, .ref a_on, .ref a_has])), (a_kind, .inl (c 0, 5, .inl x_kind)), (a_has, .inl (c 0, 5, .inl x_has)), (a_knows, .inl (c 0, 4, .inl x_knows)), (a_p0, .inr (0, [.int x_p0_size, .ref a_p0_leans, .ref a_p0_all, .ref a_p0_lostWith])), (a_p0_lostWith, .inl (c 0, 12, .inl x_p0_lostWith)), (a_on, .inl (c 0, 5, .inl x_on))]) (x_goS (As := [.int (x_kind v2.toNatClampNeg), .int (x_knows v3.toNatClampNeg)]) (rest := []) ⟨hx, hb, hml, hown, hts⟩ (mX3_nextFact l D c H.size (x_kind v2.toNatClampNeg) (x_knows v3.toNatClampNeg) n _ hc8) (va_cwS 2 hts gX3_feed_X3_nextFact rfl rfl rfl (by decide +kernel) ⟨Nat.le_of_ble_eq_true rfl, Nat.le_of_ble_eq_true rfl⟩) xB_t hP hD hK [] rfl (by decide) (fun _ _ _ => trivial) rfl hl.1 rfl (Nat.le_of_ble_eq_true rfl) dX3_feed_51) hP hD hS hA [] [0, 1, 2, 3, 4, 5, 6] [0, 1, 2, 3, 4, 5, 6] rfl rfl rfl ⟨by decide, by decide, by decide⟩ (fun H locs hP hD hS => ?_)
          refine lv_istore (lv' := [(6, .int q8_0), (0, .ref a_this), (1, .ref a_p0), (2, .int v2), (3, .int v3), (4, .int v4), (5, .int v5)]) hx hb dX3_feed_54 hl (by decide) rfl (fun ls hl => ?_)
          refine lv_aload_n hx hb dX3_feed_56 rfl (lv_at hl 1 rfl) ?_
          refine va_get (D := D) (ci := 3) (v := .ref a_has) (C := RX3) (T := TX3) (N := 8) hx hb hts inX3_feed_X3 hown hK hP 0 rfl rfl 7 (by decide) (hts _ lkX3_feed_f21) (fun _ h9 => h9) rfl dX3_feed_57 ?_
          refine lv_iload_n hx hb dX3_feed_60 rfl (lv_at hl 3 rfl) ?_
          refine lv_dup2_11 hx hb dX3_feed_61 rfl rfl ?_
          obtain ⟨b_9, hr⟩ := x_chk hr
          refine va_iald hx hb hK hP 2 0 rfl rfl b_9 dX3_feed_62 ?_
          refine lv_iconst (v := 1) hx hb dX3_feed_63 (by decide) ?_
          refine lv_iload hx hb dX3_feed_64 (lv_at hl 0 rfl) ?_
          refine lv_ishl hx hb dX3_feed_66 ?_
          refine lv_ior hx hb dX3_feed_67 ?_
          obtain ⟨b_10, hr⟩ := x_chk hr
          refine va_iast hx hb hK hP hD hS 2 0 rfl rfl b_10 dX3_feed_68 (fun H locs hP hD hS => ?_)
          have hP : va_P D vwCl [(a_this, .inr (3, [.int x_members, .int x_leeches, .int x_basin, .int x_minute, .ref a_knows, .ref a_kind, .ref a_on, .ref a_has])), (a_kind, .inl (c 0, 5, .inl x_kind)), (a_has, .inl (c 0, 5, .inl (upd x_has v2.toNatClampNeg ((x_has v2.toNatClampNeg) ||| (1 <<< (q8_0 &&& 31)))))), (a_knows, .inl (c 0, 4, .inl x_knows)), (a_p0, .inr (0, [.int x_p0_size, .ref a_p0_leans, .ref a_p0_all, .ref a_p0_lostWith])), (a_p0_lostWith, .inl (c 0, 12, .inl x_p0_lostWith)), (a_on, .inl (c 0, 5, .inl x_on))] H := hP
          have hD : va_D A [(a_this, .inr (3, [.int x_members, .int x_leeches, .int x_basin, .int x_minute, .ref a_knows, .ref a_kind, .ref a_on, .ref a_has])), (a_kind, .inl (c 0, 5, .inl x_kind)), (a_has, .inl (c 0, 5, .inl (upd x_has v2.toNatClampNeg ((x_has v2.toNatClampNeg) ||| (1 <<< (q8_0 &&& 31)))))), (a_knows, .inl (c 0, 4, .inl x_knows)), (a_p0, .inr (0, [.int x_p0_size, .ref a_p0_leans, .ref a_p0_all, .ref a_p0_lostWith])), (a_p0_lostWith, .inl (c 0, 12, .inl x_p0_lostWith)), (a_on, .inl (c 0, 5, .inl x_on))] := hD
          refine lv_aload_n hx hb dX3_feed_69 rfl (lv_at hl 1 rfl) ?_
          refine va_get (D := D) (ci := 3) (v := .ref a_knows) (C := RX3) (T := TX3) (N := 8) hx hb hts inX3_feed_X3 hown hK hP 0 rfl rfl 4 (by decide) (hts _ lkX3_feed_f9) (fun _ h9 => h9) rfl dX3_feed_70 ?_
          refine lv_iload_n hx hb dX3_feed_73 rfl (lv_at hl 4 rfl) ?_
          refine lv_dup2_11 hx hb dX3_feed_74 rfl rfl ?_
          obtain ⟨b_11, hr⟩ := x_chk hr
          refine va_iald hx hb hK hP 3 0 rfl rfl b_11 dX3_feed_75 ?_
          refine lv_aload_n hx hb dX3_feed_76 rfl (lv_at hl 2 rfl) ?_
          refine va_get (D := D) (ci := 0) (v := .ref a_p0_lostWith) (C := RX0) (T := TX0) (N := 4) hx hb hts inX3_feed_X0 hown hK hP 4 rfl rfl 3 (by decide) (hts _ lkX3_feed_f75) (fun _ h9 => h9) rfl dX3_feed_77 ?_
          refine lv_iload hx hb dX3_feed_80 (lv_at hl 0 rfl) ?_
          obtain ⟨b_12, hr⟩ := x_chk hr
          refine va_iald hx hb hK hP 5 0 rfl rfl b_12 dX3_feed_82 ?_
          refine lv_iconst (v := (-1)) hx hb dX3_feed_83 (by decide) ?_
          refine lv_ixor hx hb dX3_feed_84 ?_
          refine lv_iand hx hb dX3_feed_85 ?_
          obtain ⟨b_13, hr⟩ := x_chk hr
          refine va_iast hx hb hK hP hD hS 3 0 rfl rfl b_13 dX3_feed_86 (fun H locs hP hD hS => ?_)
          have hP : va_P D vwCl [(a_this, .inr (3, [.int x_members, .int x_leeches, .int x_basin, .int x_minute, .ref a_knows, .ref a_kind, .ref a_on, .ref a_has])), (a_kind, .inl (c 0, 5, .inl x_kind)), (a_has, .inl (c 0, 5, .inl (upd x_has v2.toNatClampNeg ((x_has v2.toNatClampNeg) ||| (1 <<< (q8_0 &&& 31)))))), (a_knows, .inl (c 0, 4, .inl (upd x_knows v3.toNatClampNeg ((x_knows v3.toNatClampNeg) &&& ((x_p0_lostWith q8_0.toNatClampNeg) ^^^ (-1)))))), (a_p0, .inr (0, [.int x_p0_size, .ref a_p0_leans, .ref a_p0_all, .ref a_p0_lostWith])), (a_p0_lostWith, .inl (c 0, 12, .inl x_p0_lostWith)), (a_on, .inl (c 0, 5, .inl x_on))] H := hP
          have hD : va_D A [(a_this, .inr (3, [.int x_members, .int x_leeches, .int x_basin, .int x_minute, .ref a_knows, .ref a_kind, .ref a_on, .ref a_has])), (a_kind, .inl (c 0, 5, .inl x_kind)), (a_has, .inl (c 0, 5, .inl (upd x_has v2.toNatClampNeg ((x_has v2.toNatClampNeg) ||| (1 <<< (q8_0 &&& 31)))))), (a_knows, .inl (c 0, 4, .inl (upd x_knows v3.toNatClampNeg ((x_knows v3.toNatClampNeg) &&& ((x_p0_lostWith q8_0.toNatClampNeg) ^^^ (-1)))))), (a_p0, .inr (0, [.int x_p0_size, .ref a_p0_leans, .ref a_p0_all, .ref a_p0_lostWith])), (a_p0_lostWith, .inl (c 0, 12, .inl x_p0_lostWith)), (a_on, .inl (c 0, 5, .inl x_on))] := hD
          refine lv_iinc (v := v5 + 1) (lv' := [(5, .int (v5 + 1)), (6, .int q8_0), (0, .ref a_this), (1, .ref a_p0), (2, .int v2), (3, .int v3), (4, .int v4)]) hx hb dX3_feed_87 hl (k := 6) rfl rfl (by decide) rfl (fun ls hl => ?_)
          refine lv_goto (tgt := 15) hx hb dX3_feed_90 (by decide) ?_
          exact h_15 (upd x_has v2.toNatClampNeg ((x_has v2.toNatClampNeg) ||| (1 <<< (q8_0 &&& 31)))) (upd x_knows v3.toNatClampNeg ((x_knows v3.toNatClampNeg) &&& ((x_p0_lostWith q8_0.toNatClampNeg) ^^^ (-1)))) x_on v2 v3 v4 (v5 + 1) hr H locs ls hP hD hS (lv_sub hl [2, 3, 4, 5, 6, 0] rfl)
set_option maxHeartbeats 4000000 in
set_option maxRecDepth 100000 in
theorem kX3_feed_0 {p : Program} {l : Launch} {e : Env} {s : State} {m : MethodId} {args : Array Value} {below : List Frame} {meth : Method} {cd : Code} {D : va_G} {c : Nat → ClassId} {A : Nat → Prop} (E0 : xE p s m args meth cd D (xT c) A RX3 cX3_feed 7 none wsX3_feed) (a_this : Nat) (a_p0 : Nat) (a_knows : Nat) (a_kind : Nat) (a_on : Nat) (a_has : Nat) (a_p0_leans : Nat) (a_p0_all : Nat) (a_p0_lostWith : Nat) (ev : Nat → Nat) (x_members : Int32) (x_leeches : Int32) (x_basin : Int32) (x_minute : Int32) (x_p0_size : Int32) (x_kind : Nat → Int32) (x_p0_lostWith : Nat → Int32) (n : Nat) (rm_has : Nat → Int32) (rm_knows : Nat → Int32) (rm_on : Nat → Int32) (hV : xV ev A s) (x_has : Nat → Int32) (x_knows : Nat → Int32) (x_on : Nat → Int32) (v2 : Int32) (v3 : Int32) (hr : fX3_feed n x_kind x_p0_lostWith x_has x_knows x_on v2 v3 = some (rm_has, rm_knows, rm_on)) : GX3_feed p l e s m args below meth cd D c A a_this a_p0 a_knows a_kind a_on a_has a_p0_leans a_p0_all a_p0_lostWith ev x_members x_leeches x_basin x_minute x_p0_size x_kind x_p0_lostWith rm_has rm_knows rm_on 0 [] [(0, .ref a_this), (1, .ref a_p0), (2, .int v2), (3, .int v3)] x_has x_knows x_on := by
  have E1 := E0
  obtain ⟨hx, hb, hml, hret, hown, hts, hlocks, hA, hK⟩ := E1
  have hVV := hV
  obtain ⟨hn_RX7_9, hn_RX6_17, hn_RX6_24, hn_RX7_18, hn_RX7_25, hn_RX7_45, hn_RX7_52, hn_RX7_65, hn_RX7_70, hn_RX0_31, hn_RX3_53, hn_RX2_57, hn_RX3_65, hn_RX3_86, hz_TAKES, ht_TAKES, hz_HAS_ROOM, ht_HAS_ROOM, hz_SUCH, ht_SUCH, hz_FIRST_FIGURE, ht_FIRST_FIGURE, hz_compact, hz_sioobe, ho_Room, ho_Slate, ho_grid, hstr, hs_0, hs_1, hs_2, hs_3, hs_4, hs_5, hs_6, hs_7, hs_8⟩ := hVV
  intro H locs ls hP hD hS hl
  unfold fX3_feed at hr
  refine va_getsN hx hb hz_TAKES hS hown (va_Nw.use rfl hn_RX3_65) (fun _ h9 => h9) dX3_feed_0 ?_
  refine lv_aload_n hx hb dX3_feed_3 rfl (lv_at hl 0 rfl) ?_
  refine va_get (D := D) (ci := 3) (v := .ref a_kind) (C := RX3) (T := TX3) (N := 8) hx hb hts inX3_feed_X3 hown hK hP 0 rfl rfl 5 (by decide) (hts _ lkX3_feed_f15) (fun _ h9 => h9) rfl dX3_feed_4 ?_
  refine lv_iload_n hx hb dX3_feed_7 rfl (lv_at hl 2 rfl) ?_
  obtain ⟨b_1, hr⟩ := x_chk hr
  refine va_iald hx hb hK hP 1 0 rfl rfl b_1 dX3_feed_8 ?_
  obtain ⟨b_2, hr⟩ := x_chk hr
  refine va_ti hx hb ht_TAKES hS b_2 rfl dX3_feed_9 ?_
  refine lv_istore (lv' := [(4, .int (xt_TAKES (x_kind v2.toNatClampNeg).toNatClampNeg)), (0, .ref a_this), (1, .ref a_p0), (2, .int v2), (3, .int v3)]) hx hb dX3_feed_10 hl (by decide) rfl (fun ls hl => ?_)
  refine lv_iconst (v := 0) hx hb dX3_feed_12 (by decide) ?_
  refine lv_istore (lv' := [(5, .int 0), (4, .int (xt_TAKES (x_kind v2.toNatClampNeg).toNatClampNeg)), (0, .ref a_this), (1, .ref a_p0), (2, .int v2), (3, .int v3)]) hx hb dX3_feed_13 hl (by decide) rfl (fun ls hl => ?_)
  exact kX3_feed_15 E0 a_this a_p0 a_knows a_kind a_on a_has a_p0_leans a_p0_all a_p0_lostWith ev x_members x_leeches x_basin x_minute x_p0_size x_kind x_p0_lostWith n rm_has rm_knows rm_on hV n x_has x_knows x_on v2 v3 (xt_TAKES (x_kind v2.toNatClampNeg).toNatClampNeg) 0 hr H locs ls hP hD hS (lv_sub hl [2, 3, 4, 5, 1, 0] rfl)
set_option maxHeartbeats 4000000 in
set_option maxRecDepth 100000 in
theorem mX3_feed (l : Launch) (D : va_G) (c : Nat → ClassId) (a_this : Nat) (a_p0 : Nat) (a_knows : Nat) (a_kind : Nat) (a_on : Nat) (a_has : Nat) (a_p0_leans : Nat) (a_p0_all : Nat) (a_p0_lostWith : Nat) (ev : Nat → Nat) (sz : Nat) (x_members : Int32) (x_leeches : Int32) (x_basin : Int32) (x_minute : Int32) (x_p0_size : Int32) (x_kind : Nat → Int32) (x_p0_lostWith : Nat → Int32) (x_has : Nat → Int32) (x_knows : Nat → Int32) (x_on : Nat → Int32) (v2 : Int32) (v3 : Int32) (n : Nat) (rm_has : Nat → Int32) (rm_knows : Nat → Int32) (rm_on : Nat → Int32) (h : fX3_feed n x_kind x_p0_lostWith x_has x_knows x_on v2 v3 = some (rm_has, rm_knows, rm_on)) : Met l yX3_feed wsX3_feed ({ frames := 2, cells := 0, slots := 0, locals := 43 } : Room) (xPc D (xT c) sz [.ref a_this, .ref a_p0, .int v2, .int v3] (wX3_feed c a_this a_p0 a_knows a_kind a_on a_has a_p0_leans a_p0_all a_p0_lostWith ev x_members x_leeches x_basin x_minute x_p0_size x_kind x_p0_lostWith x_has x_knows x_on) (xV ev (va_A (wX3_feed c a_this a_p0 a_knows a_kind a_on a_has a_p0_leans a_p0_all a_p0_lostWith ev x_members x_leeches x_basin x_minute x_p0_size x_kind x_p0_lostWith x_has x_knows x_on) sz))) (xQv D (xT c) (va_A (wX3_feed c a_this a_p0 a_knows a_kind a_on a_has a_p0_leans a_p0_all a_p0_lostWith ev x_members x_leeches x_basin x_minute x_p0_size x_kind x_p0_lostWith x_has x_knows x_on) sz) (wX3_feed c a_this a_p0 a_knows a_kind a_on a_has a_p0_leans a_p0_all a_p0_lostWith ev x_members x_leeches x_basin x_minute x_p0_size x_kind x_p0_lostWith rm_has rm_knows rm_on)) 0 0 (va_A (wX3_feed c a_this a_p0 a_knows a_kind a_on a_has a_p0_leans a_p0_all a_p0_lostWith ev x_members x_leeches x_basin x_minute x_p0_size x_kind x_p0_lostWith x_has x_knows x_on) sz) := by
  refine Met.ofW (cc := cX3_feed) (maxL := 7) (ret := none) (by decide) rfl ?_
  intro p e s m args below meth cd s₁ B hml hv
  obtain ⟨rfl, hsz, hP, hK, hD0, hV⟩ := hv
  subst hsz
  have hl := lv_entry [.ref a_this, .ref a_p0, .int v2, .int v3] (n := 7) (Nat.le_of_ble_eq_true rfl)
  rw [lg_entry_eq]
  exact kX3_feed_0 (A := va_A (wX3_feed c a_this a_p0 a_knows a_kind a_on a_has a_p0_leans a_p0_all a_p0_lostWith ev x_members x_leeches x_basin x_minute x_p0_size x_kind x_p0_lostWith x_has x_knows x_on) s.heap.size) ⟨B.exec, B.bytes, hml, B.returns, findClass_of_methodNamed B.named, atoms_spec (ws := wsX3_feed) B.pre, B.notSynchronized, fun q h => Or.inr h, hK⟩ a_this a_p0 a_knows a_kind a_on a_has a_p0_leans a_p0_all a_p0_lostWith ev x_members x_leeches x_basin x_minute x_p0_size x_kind x_p0_lostWith n rm_has rm_knows rm_on hV x_has x_knows x_on v2 v3 h s.heap [] _ hP hD0.self va_S.rf hl

abbrev wX3_pass (c : Nat → ClassId) (a_this : Nat) (a_p0 : Nat) (a_knows : Nat) (a_kind : Nat) (a_on : Nat) (a_has : Nat) (a_p0_leans : Nat) (a_p0_all : Nat) (a_p0_lostWith : Nat) (ev : Nat → Nat) (x_basin : Int32) (x_p0_size : Int32) (x_leeches : Int32) (x_members : Int32) (x_kind : Nat → Int32) (x_p0_lostWith : Nat → Int32) (x_minute : Int32) (x_has : Nat → Int32) (x_knows : Nat → Int32) (x_on : Nat → Int32) : va_W := [(a_this, .inr (3, [.int x_members, .int x_leeches, .int x_basin, .int x_minute, .ref a_knows, .ref a_kind, .ref a_on, .ref a_has])), (a_on, .inl (c 0, 5, .inl x_on)), (a_kind, .inl (c 0, 5, .inl x_kind)), (a_has, .inl (c 0, 5, .inl x_has)), (a_knows, .inl (c 0, 4, .inl x_knows)), (a_p0, .inr (0, [.int x_p0_size, .ref a_p0_leans, .ref a_p0_all, .ref a_p0_lostWith])), (a_p0_lostWith, .inl (c 0, 12, .inl x_p0_lostWith))]
def GX3_pass (p : Program) (l : Launch) (e : Env) (s : State) (m : MethodId) (args : Array Value) (below : List Frame) (meth : Method) (cd : Code) (D : va_G) (c : Nat → ClassId) (A : Nat → Prop) (a_this : Nat) (a_p0 : Nat) (a_knows : Nat) (a_kind : Nat) (a_on : Nat) (a_has : Nat) (a_p0_leans : Nat) (a_p0_all : Nat) (a_p0_lostWith : Nat) (ev : Nat → Nat) (x_basin : Int32) (x_p0_size : Int32) (x_leeches : Int32) (x_members : Int32) (x_kind : Nat → Int32) (x_p0_lostWith : Nat → Int32) (rm_minute : Int32) (rm_has : Nat → Int32) (rm_knows : Nat → Int32) (rm_on : Nat → Int32) (pc : Nat) (st : List Value) (loc : List (Nat × Value)) (x_minute : Int32) (x_has : Nat → Int32) (x_knows : Nat → Int32) (x_on : Nat → Int32) : Prop :=
  ∀ (H : Heap) (locs : List Loc) (ls : Array Slot), va_P D vwCl (wX3_pass c a_this a_p0 a_knows a_kind a_on a_has a_p0_leans a_p0_all a_p0_lostWith ev x_basin x_p0_size x_leeches x_members x_kind x_p0_lostWith x_minute x_has x_knows x_on) H → va_D A (wX3_pass c a_this a_p0 a_knows a_kind a_on a_has a_p0_leans a_p0_all a_p0_lostWith ev x_basin x_p0_size x_leeches x_members x_kind x_p0_lostWith x_minute x_has x_knows x_on) → va_S A s.heap H locs → lv_has ls 5 loc → W p l e ({ frames := 3, cells := 0, slots := 0, locals := 69 } : Room) s m args below meth cd H locs 0 0 (MQ below (xQv D (xT c) A (wX3_pass c a_this a_p0 a_knows a_kind a_on a_has a_p0_leans a_p0_all a_p0_lostWith ev x_basin x_p0_size x_leeches x_members x_kind x_p0_lostWith rm_minute rm_has rm_knows rm_on)) args s 0 0 A) (F0 m pc ls st)
theorem lkX3_pass_f18 : Cond.fieldLink RX3 18 "LeechClub$Room" "on" "[I" ∈ wsX3_pass := by decide +kernel
theorem lkX3_pass_f28 : Cond.fieldLink RX3 28 "LeechClub$Room" "leeches" "I" ∈ wsX3_pass := by decide +kernel
theorem lkX3_pass_f34 : Cond.fieldLink RX3 34 "LeechClub$Room" "minute" "I" ∈ wsX3_pass := by decide +kernel
theorem inX3_pass_X3 : ∀ w ∈ wsX30, w ∈ wsX3_pass := by decide +kernel
set_option maxHeartbeats 4000000 in
set_option maxRecDepth 100000 in
theorem kX3_pass_47 {p : Program} {l : Launch} {e : Env} {s : State} {m : MethodId} {args : Array Value} {below : List Frame} {meth : Method} {cd : Code} {D : va_G} {c : Nat → ClassId} {A : Nat → Prop} (E0 : xE p s m args meth cd D (xT c) A RX3 cX3_pass 5 none wsX3_pass) (a_this : Nat) (a_p0 : Nat) (a_knows : Nat) (a_kind : Nat) (a_on : Nat) (a_has : Nat) (a_p0_leans : Nat) (a_p0_all : Nat) (a_p0_lostWith : Nat) (ev : Nat → Nat) (x_basin : Int32) (x_p0_size : Int32) (x_leeches : Int32) (x_members : Int32) (x_kind : Nat → Int32) (x_p0_lostWith : Nat → Int32) (n : Nat) (rm_minute : Int32) (rm_has : Nat → Int32) (rm_knows : Nat → Int32) (rm_on : Nat → Int32) (hV : xV ev A s) (r_2 : Int32 → (Nat → Int32) → (Nat → Int32) → (Nat → Int32) → Int32 → Int32 → Option (Int32 × (Nat → Int32) × (Nat → Int32) × (Nat → Int32))) (h_2 : ∀ (x_minute : Int32) (x_has : Nat → Int32) (x_knows : Nat → Int32) (x_on : Nat → Int32) (v2 : Int32) (v3 : Int32), r_2 x_minute x_has x_knows x_on v2 v3 = some (rm_minute, rm_has, rm_knows, rm_on) → GX3_pass p l e s m args below meth cd D c A a_this a_p0 a_knows a_kind a_on a_has a_p0_leans a_p0_all a_p0_lostWith ev x_basin x_p0_size x_leeches x_members x_kind x_p0_lostWith rm_minute rm_has rm_knows rm_on 2 [] [(0, .ref a_this), (1, .ref a_p0), (2, .int v2), (3, .int v3)] x_minute x_has x_knows x_on) (r_10 : Int32 → (Nat → Int32) → (Nat → Int32) → (Nat → Int32) → Int32 → Int32 → Int32 → Option (Int32 × (Nat → Int32) × (Nat → Int32) × (Nat → Int32))) (h_10 : ∀ (x_minute : Int32) (x_has : Nat → Int32) (x_knows : Nat → Int32) (x_on : Nat → Int32) (v2 : Int32) (v3 : Int32) (v4 : Int32), r_10 x_minute x_has x_knows x_on v2 v3 v4 = some (rm_minute, rm_has, rm_knows, rm_on) → GX3_pass p l e s m args below meth cd D c A a_this a_p0 a_knows a_kind a_on a_has a_p0_leans a_p0_all a_p0_lostWith ev x_basin x_p0_size x_leeches x_members x_kind x_p0_lostWith rm_minute rm_has rm_knows rm_on 10 [] [(0, .ref a_this), (1, .ref a_p0), (2, .int v2), (3, .int v3), (4, .int v4)] x_minute x_has x_knows x_on) (x_minute : Int32) (x_has : Nat → Int32) (x_knows : Nat → Int32) (x_on : Nat → Int32) (v2 : Int32) (v3 : Int32) (v4 : Int32) (hr : fX3_pass_47 n r_2 r_10 x_leeches x_members x_kind x_p0_lostWith x_minute x_has x_knows x_on v2 v3 v4 = some (rm_minute, rm_has, rm_knows, rm_on)) : GX3_pass p l e s m args below meth cd D c A a_this a_p0 a_knows a_kind a_on a_has a_p0_leans a_p0_all a_p0_lostWith ev x_basin x_p0_size x_leeches x_members x_kind x_p0_lostWith rm_minute rm_has rm_knows rm_on 47 [] [(0, .ref a_this), (1, .ref a_p0), (2, .int v2), (3, .int v3), (4, .int v4)] x_minute x_has x_knows x_on := by
  have E1 := E0
  obtain ⟨hx, hb, hml, hret, hown, hts, hlocks, hA, hK⟩ := E1
  have hVV := hV
  obtain ⟨hn_RX7_9, hn_RX6_17, hn_RX6_24, hn_RX7_18, hn_RX7_25, hn_RX7_45, hn_RX7_52, hn_RX7_65, hn_RX7_70, hn_RX0_31, hn_RX3_53, hn_RX2_57, hn_RX3_65, hn_RX3_86, hz_TAKES, ht_TAKES, hz_HAS_ROOM, ht_HAS_ROOM, hz_SUCH, ht_SUCH, hz_FIRST_FIGURE, ht_FIRST_FIGURE, hz_compact, hz_sioobe, ho_Room, ho_Slate, ho_grid, hstr, hs_0, hs_1, hs_2, hs_3, hs_4, hs_5, hs_6, hs_7, hs_8⟩ := hVV
  intro H locs ls hP hD hS hl
  unfold fX3_pass_47 at hr
  refine lv_iinc (v := v4 + 1) (lv' := [(4, .int (v4 + 1)), (0, .ref a_this), (1, .ref a_p0), (2, .int v2), (3, .int v3)]) hx hb dX3_pass_47 hl (k := 4) rfl rfl (by decide) rfl (fun ls hl => ?_)
  refine lv_goto (tgt := 10) hx hb dX3_pass_50 (by decide) ?_
  exact h_10 x_minute x_has x_knows x_on v2 v3 (v4 + 1) hr H locs ls hP hD hS (lv_sub hl [1, 2, 3, 4, 0] rfl)
set_option maxHeartbeats 4000000 in
set_option maxRecDepth 100000 in
theorem kX3_pass_10 {p : Program} {l : Launch} {e : Env} {s : State} {m : MethodId} {args : Array Value} {below : List Frame} {meth : Method} {cd : Code} {D : va_G} {c : Nat → ClassId} {A : Nat → Prop} (E0 : xE p s m args meth cd D (xT c) A RX3 cX3_pass 5 none wsX3_pass) (a_this : Nat) (a_p0 : Nat) (a_knows : Nat) (a_kind : Nat) (a_on : Nat) (a_has : Nat) (a_p0_leans : Nat) (a_p0_all : Nat) (a_p0_lostWith : Nat) (ev : Nat → Nat) (x_basin : Int32) (x_p0_size : Int32) (x_leeches : Int32) (x_members : Int32) (x_kind : Nat → Int32) (x_p0_lostWith : Nat → Int32) (n : Nat) (rm_minute : Int32) (rm_has : Nat → Int32) (rm_knows : Nat → Int32) (rm_on : Nat → Int32) (hV : xV ev A s) (r_2 : Int32 → (Nat → Int32) → (Nat → Int32) → (Nat → Int32) → Int32 → Int32 → Option (Int32 × (Nat → Int32) × (Nat → Int32) × (Nat → Int32))) (h_2 : ∀ (x_minute : Int32) (x_has : Nat → Int32) (x_knows : Nat → Int32) (x_on : Nat → Int32) (v2 : Int32) (v3 : Int32), r_2 x_minute x_has x_knows x_on v2 v3 = some (rm_minute, rm_has, rm_knows, rm_on) → GX3_pass p l e s m args below meth cd D c A a_this a_p0 a_knows a_kind a_on a_has a_p0_leans a_p0_all a_p0_lostWith ev x_basin x_p0_size x_leeches x_members x_kind x_p0_lostWith rm_minute rm_has rm_knows rm_on 2 [] [(0, .ref a_this), (1, .ref a_p0), (2, .int v2), (3, .int v3)] x_minute x_has x_knows x_on) : ∀ (k : Nat) (x_minute : Int32) (x_has : Nat → Int32) (x_knows : Nat → Int32) (x_on : Nat → Int32) (v2 : Int32) (v3 : Int32) (v4 : Int32), fX3_pass_10 n r_2 x_leeches x_members x_kind x_p0_lostWith k x_minute x_has x_knows x_on v2 v3 v4 = some (rm_minute, rm_has, rm_knows, rm_on) → GX3_pass p l e s m args below meth cd D c A a_this a_p0 a_knows a_kind a_on a_has a_p0_leans a_p0_all a_p0_lostWith ev x_basin x_p0_size x_leeches x_members x_kind x_p0_lostWith rm_minute rm_has rm_knows rm_on 10 [] [(0, .ref a_this), (1, .ref a_p0), (2, .int v2), (3, .int v3), (4, .int v4)] x_minute x_has x_knows x_on := by
  have E1 := E0
  obtain ⟨hx, hb, hml, hret, hown, hts, hlocks, hA, hK⟩ := E1
  have hVV := hV
  obtain ⟨hn_RX7_9, hn_RX6_17, hn_RX6_24, hn_RX7_18, hn_RX7_25, hn_RX7_45, hn_RX7_52, hn_RX7_65, hn_RX7_70, hn_RX0_31, hn_RX3_53, hn_RX2_57, hn_RX3_65, hn_RX3_86, hz_TAKES, ht_TAKES, hz_HAS_ROOM, ht_HAS_ROOM, hz_SUCH, ht_SUCH, hz_FIRST_FIGURE, ht_FIRST_FIGURE, hz_compact, hz_sioobe, ho_Room, ho_Slate, ho_grid, hstr, hs_0, hs_1, hs_2, hs_3, hs_4, hs_5, hs_6, hs_7, hs_8⟩ := hVV
  intro k
  induction k with
  | zero => intro x_minute x_has x_knows x_on v2 v3 v4 hr; cases hr
  | succ k h_10 =>
    intro x_minute x_has x_knows x_on v2 v3 v4 hr H locs ls hP hD hS hl
    unfold fX3_pass_10 at hr
    refine lv_iload hx hb dX3_pass_10 (lv_at hl 4 rfl) ?_
    refine lv_aload_n hx hb dX3_pass_12 rfl (lv_at hl 0 rfl) ?_
    refine va_get (D := D) (ci := 3) (v := .int x_leeches) (C := RX3) (T := TX3) (N := 8) hx hb hts inX3_pass_X3 hown hK hP 0 rfl rfl 1 (by decide) (hts _ lkX3_pass_f28) (fun _ h9 => h9) rfl dX3_pass_13 ?_
    refine lv_icmp_ge (tgt := 53) hx hb dX3_pass_16 (by decide) (fun c_1 => ?_) (fun c_1 => ?_)
    · have hr := x_ift hr c_1
      refine lv_aload_n hx hb dX3_pass_53 rfl (lv_at hl 0 rfl) ?_
      refine lv_dup hx hb dX3_pass_54 rfl ?_
      refine va_get (D := D) (ci := 3) (v := .int x_minute) (C := RX3) (T := TX3) (N := 8) hx hb hts inX3_pass_X3 hown hK hP 0 rfl rfl 3 (by decide) (hts _ lkX3_pass_f34) (fun _ h9 => h9) rfl dX3_pass_55 ?_
      refine lv_iconst (v := 1) hx hb dX3_pass_58 (by decide) ?_
      refine lv_iadd hx hb dX3_pass_59 ?_
      refine va_put (D := D) (ci := 3) (v := .int (x_minute + 1)) (ty := .int) (C := RX3) (T := TX3) (N := 8) hx hb hts inX3_pass_X3 tyX3 tyX3_ok nmX3 hown hK hP hD hS 0 rfl rfl 3 (by decide) (hts _ lkX3_pass_f34) (fun _ h9 => h9) rfl (by decide +kernel) rfl rfl (Nat.le_of_ble_eq_true rfl) dX3_pass_60 (fun H locs hP hD hS => ?_)
      have hP : va_P D vwCl [(a_this, .inr (3, [.int x_members, .int x_leeches, .int x_basin, .int (x_minute + 1), .ref a_knows, .ref a_kind, .ref a_on, .ref a_has])), (a_on, .inl (c 0, 5, .inl x_on)), (a_kind, .inl (c 0, 5, .inl x_kind)), (a_has, .inl (c 0, 5, .inl x_has)), (a_knows, .inl (c 0, 4, .inl x_knows)), (a_p0, .inr (0, [.int x_p0_size, .ref a_p0_leans, .ref a_p0_all, .ref a_p0_lostWith])), (a_p0_lostWith, .inl (c 0, 12, .inl x_p0_lostWith))] H := hP
      have hD : va_D A [(a_this, .inr (3, [.int x_members, .int x_leeches, .int x_basin, .int (x_minute + 1), .ref a_knows, .ref a_kind, .ref a_on, .ref a_has])), (a_on, .inl (c 0, 5, .inl x_on)), (a_kind, .inl (c 0, 5, .inl x_kind)), (a_has, .inl (c 0, 5, .inl x_has)), (a_knows, .inl (c 0, 4, .inl x_knows)), (a_p0, .inr (0, [.int x_p0_size, .ref a_p0_leans, .ref a_p0_all, .ref a_p0_lostWith])), (a_p0_lostWith, .inl (c 0, 12, .inl x_p0_lostWith))] := hD
      refine lv_iinc (v := v3 + 1) (lv' := [(3, .int (v3 + 1)), (0, .ref a_this), (1, .ref a_p0), (2, .int v2), (4, .int v4)]) hx hb dX3_pass_63 hl (k := 3) rfl rfl (by decide) rfl (fun ls hl => ?_)
      refine lv_goto (tgt := 2) hx hb dX3_pass_66 (by decide) ?_
      exact h_2 (x_minute + 1) x_has x_knows x_on v2 (v3 + 1) hr H locs ls hP hD hS (lv_sub hl [1, 2, 3, 0] rfl)
    · have hr := x_iff hr c_1
      refine lv_aload_n hx hb dX3_pass_19 rfl (lv_at hl 0 rfl) ?_
      refine lv_aload_n hx hb dX3_pass_20 rfl (lv_at hl 0 rfl) ?_
      refine va_get (D := D) (ci := 3) (v := .ref a_on) (C := RX3) (T := TX3) (N := 8) hx hb hts inX3_pass_X3 hown hK hP 0 rfl rfl 6 (by decide) (hts _ lkX3_pass_f18) (fun _ h9 => h9) rfl dX3_pass_21 ?_
      refine lv_iload hx hb dX3_pass_24 (lv_at hl 4 rfl) ?_
      obtain ⟨b_2, hr⟩ := x_chk hr
      refine va_iald hx hb hK hP 1 0 rfl rfl b_2 dX3_pass_26 ?_
      obtain ⟨q3_0, hc3, hr⟩ := x_bind hr
      refine x_runi (wr := [(a_on, .inl (c 0, 5, .inl x_on)), (a_kind, .inl (c 0, 5, .inl x_kind)), (a_has, .inl (c 0, 5, .inl x_has)), (a_knows, .inl (c 0, 4, .inl x_knows)), (a_p0, .inr (0, [.int x_p0_size, .ref a_p0_leans, .ref a_p0_all, .ref a_p0_lostWith])), (a_p0_lostWith, .inl (c 0, 12, .inl x_p0_lostWith))]) (wf := [(a_this, .inr (3, [.int x_members, .int x_leeches, .int x_basin, .int x_minute, .ref a_knows, .ref a_kind, .ref a_on, .ref a_has])), (a_on, .inl (c 0, 5, .inl x_on)), (a_kind, .inl (c 0, 5, .inl x_kind)), (a_has, .inl (c 0, 5, .inl x_has)), (a_knows, .inl (c 0, 4, .inl x_knows)), (a_p0, .inr (0, [.int x_p0_size, .ref a_p0_leans, .ref a_p0_all, .ref a_p0_lostWith])), (a_p0_lostWith, .inl (c 0, 12, .inl x_p0_lostWith))]) (x_goV (As := [.int (x_on v4.toNatClampNeg)]) (rest := []) ⟨hx, hb, hml, hown, hts⟩ (mX3_hasMember l D c a_this a_knows a_kind a_on a_has H.size x_leeches x_basin x_minute x_members (x_on v4.toNatClampNeg) n _ hc3) (cwV 1 hts gX3_pass_X3_hasMember rfl rfl rfl (by decide +kernel) ⟨Nat.le_of_ble_eq_true rfl, Nat.le_of_ble_eq_true rfl⟩) xB_t hP hD hK [0] rfl (by decide) (fun _ _ _ => trivial) 0 3 rfl rfl rfl rfl hl.1 rfl (Nat.le_of_ble_eq_true rfl) dX3_pass_27) hP hD hS hA [0] [1, 2, 3, 4, 5, 6] [6, 0, 1, 2, 3, 4, 5] rfl rfl rfl ⟨by decide, by decide, by decide⟩ (fun H locs hP hD hS => ?_)
      refine lv_if_eq (tgt := 47) hx hb dX3_pass_30 (by decide) (fun c_4 => ?_) (fun c_4 => ?_)
      · have hr := x_ift hr c_4
        exact kX3_pass_47 E0 a_this a_p0 a_knows a_kind a_on a_has a_p0_leans a_p0_all a_p0_lostWith ev x_basin x_p0_size x_leeches x_members x_kind x_p0_lostWith n rm_minute rm_has rm_knows rm_on hV r_2 h_2 (fX3_pass_10 n r_2 x_leeches x_members x_kind x_p0_lostWith k) h_10 x_minute x_has x_knows x_on v2 v3 v4 hr H locs ls hP hD hS (lv_sub hl [0, 1, 2, 3, 4] rfl)
      · have hr := x_iff hr c_4
        refine lv_aload_n hx hb dX3_pass_33 rfl (lv_at hl 0 rfl) ?_
        refine lv_aload_n hx hb dX3_pass_34 rfl (lv_at hl 1 rfl) ?_
        refine lv_iload hx hb dX3_pass_35 (lv_at hl 4 rfl) ?_
        refine lv_aload_n hx hb dX3_pass_37 rfl (lv_at hl 0 rfl) ?_
        refine va_get (D := D) (ci := 3) (v := .ref a_on) (C := RX3) (T := TX3) (N := 8) hx hb hts inX3_pass_X3 hown hK hP 0 rfl rfl 6 (by decide) (hts _ lkX3_pass_f18) (fun _ h9 => h9) rfl dX3_pass_38 ?_
        refine lv_iload hx hb dX3_pass_41 (lv_at hl 4 rfl) ?_
        obtain ⟨b_5, hr⟩ := x_chk hr
        refine va_iald hx hb hK hP 1 0 rfl rfl b_5 dX3_pass_43 ?_
        obtain ⟨⟨q6_0, q6_1, q6_2⟩, hc6, hr⟩ := x_bind hr
        try dsimp only at hr
        refine x_runv (wr := []) (wf := [(a_this, .inr (3, [.int x_members, .int x_leeches, .int x_basin, .int x_minute, .ref a_knows, .ref a_kind, .ref a_on, .ref a_has])), (a_on, .inl (c 0, 5, .inl q6_2)), (a_kind, .inl (c 0, 5, .inl x_kind)), (a_has, .inl (c 0, 5, .inl q6_0)), (a_knows, .inl (c 0, 4, .inl q6_1)), (a_p0, .inr (0, [.int x_p0_size, .ref a_p0_leans, .ref a_p0_all, .ref a_p0_lostWith])), (a_p0_lostWith, .inl (c 0, 12, .inl x_p0_lostWith))]) (x_goV (As := [.ref a_p0, .int v4, .int (x_on v4.toNatClampNeg)]) (rest := []) ⟨hx, hb, hml, hown, hts⟩ (mX3_feed l D c a_this a_p0 a_knows a_kind a_on a_has a_p0_leans a_p0_all a_p0_lostWith ev H.size x_members x_leeches x_basin x_minute x_p0_size x_kind x_p0_lostWith x_has x_knows x_on v4 (x_on v4.toNatClampNeg) n _ _ _ hc6) (cwV 3 hts gX3_pass_X3_feed rfl rfl rfl (by decide +kernel) ⟨Nat.le_of_ble_eq_true rfl, Nat.le_of_ble_eq_true rfl⟩) xV_b hP hD hK [0, 2, 3, 4, 5, 6, 1] rfl (by decide) (fun U hU hW => xV_call hV hS (va_free hD hS hA [0, 2, 3, 4, 5, 6, 1] rfl) hU hW) 0 3 rfl rfl rfl rfl hl.1 rfl (Nat.le_of_ble_eq_true rfl) dX3_pass_44) hP hD hS hA [0, 2, 3, 4, 5, 6, 1] [] [0, 6, 1, 2, 3, 4, 5] rfl rfl rfl ⟨by decide, by decide, by decide⟩ (fun H locs hP hD hS => ?_)
        exact kX3_pass_47 E0 a_this a_p0 a_knows a_kind a_on a_has a_p0_leans a_p0_all a_p0_lostWith ev x_basin x_p0_size x_leeches x_members x_kind x_p0_lostWith n rm_minute rm_has rm_knows rm_on hV r_2 h_2 (fX3_pass_10 n r_2 x_leeches x_members x_kind x_p0_lostWith k) h_10 x_minute q6_0 q6_1 q6_2 v2 v3 v4 hr H locs ls hP hD hS (lv_sub hl [0, 1, 2, 3, 4] rfl)
set_option maxHeartbeats 4000000 in
set_option maxRecDepth 100000 in
theorem kX3_pass_2 {p : Program} {l : Launch} {e : Env} {s : State} {m : MethodId} {args : Array Value} {below : List Frame} {meth : Method} {cd : Code} {D : va_G} {c : Nat → ClassId} {A : Nat → Prop} (E0 : xE p s m args meth cd D (xT c) A RX3 cX3_pass 5 none wsX3_pass) (a_this : Nat) (a_p0 : Nat) (a_knows : Nat) (a_kind : Nat) (a_on : Nat) (a_has : Nat) (a_p0_leans : Nat) (a_p0_all : Nat) (a_p0_lostWith : Nat) (ev : Nat → Nat) (x_basin : Int32) (x_p0_size : Int32) (x_leeches : Int32) (x_members : Int32) (x_kind : Nat → Int32) (x_p0_lostWith : Nat → Int32) (n : Nat) (rm_minute : Int32) (rm_has : Nat → Int32) (rm_knows : Nat → Int32) (rm_on : Nat → Int32) (hV : xV ev A s) : ∀ (k : Nat) (x_minute : Int32) (x_has : Nat → Int32) (x_knows : Nat → Int32) (x_on : Nat → Int32) (v2 : Int32) (v3 : Int32), fX3_pass_2 n x_leeches x_members x_kind x_p0_lostWith k x_minute x_has x_knows x_on v2 v3 = some (rm_minute, rm_has, rm_knows, rm_on) → GX3_pass p l e s m args below meth cd D c A a_this a_p0 a_knows a_kind a_on a_has a_p0_leans a_p0_all a_p0_lostWith ev x_basin x_p0_size x_leeches x_members x_kind x_p0_lostWith rm_minute rm_has rm_knows rm_on 2 [] [(0, .ref a_this), (1, .ref a_p0), (2, .int v2), (3, .int v3)] x_minute x_has x_knows x_on := by
  have E1 := E0
  obtain ⟨hx, hb, hml, hret, hown, hts, hlocks, hA, hK⟩ := E1
  have hVV := hV
  obtain ⟨hn_RX7_9, hn_RX6_17, hn_RX6_24, hn_RX7_18, hn_RX7_25, hn_RX7_45, hn_RX7_52, hn_RX7_65, hn_RX7_70, hn_RX0_31, hn_RX3_53, hn_RX2_57, hn_RX3_65, hn_RX3_86, hz_TAKES, ht_TAKES, hz_HAS_ROOM, ht_HAS_ROOM, hz_SUCH, ht_SUCH, hz_FIRST_FIGURE, ht_FIRST_FIGURE, hz_compact, hz_sioobe, ho_Room, ho_Slate, ho_grid, hstr, hs_0, hs_1, hs_2, hs_3, hs_4, hs_5, hs_6, hs_7, hs_8⟩ := hVV
  intro k
  induction k with
  | zero => intro x_minute x_has x_knows x_on v2 v3 hr; cases hr
  | succ k h_2 =>
    intro x_minute x_has x_knows x_on v2 v3 hr H locs ls hP hD hS hl
    unfold fX3_pass_2 at hr
    refine lv_iload_n hx hb dX3_pass_2 rfl (lv_at hl 3 rfl) ?_
    refine lv_iload_n hx hb dX3_pass_3 rfl (lv_at hl 2 rfl) ?_
    refine lv_icmp_ge (tgt := 69) hx hb dX3_pass_4 (by decide) (fun c_1 => ?_) (fun c_1 => ?_)
    · have hr := x_ift hr c_1
      have g0 := x_some hr
      have e0 := x_p1 g0
      have g1 := x_p2 g0
      have e1 := x_p1 g1
      have g2 := x_p2 g1
      have e2 := x_p1 g2
      have e3 := x_p2 g2
      subst e0
      subst e1
      subst e2
      subst e3
      exact x_retv hx hb hret hlocks hP hD hK hS dX3_pass_69
    · have hr := x_iff hr c_1
      refine lv_iconst (v := 0) hx hb dX3_pass_7 (by decide) ?_
      refine lv_istore (lv' := [(4, .int 0), (0, .ref a_this), (1, .ref a_p0), (2, .int v2), (3, .int v3)]) hx hb dX3_pass_8 hl (by decide) rfl (fun ls hl => ?_)
      exact kX3_pass_10 E0 a_this a_p0 a_knows a_kind a_on a_has a_p0_leans a_p0_all a_p0_lostWith ev x_basin x_p0_size x_leeches x_members x_kind x_p0_lostWith n rm_minute rm_has rm_knows rm_on hV (fX3_pass_2 n x_leeches x_members x_kind x_p0_lostWith k) h_2 n x_minute x_has x_knows x_on v2 v3 0 hr H locs ls hP hD hS (lv_sub hl [1, 2, 3, 4, 0] rfl)
set_option maxHeartbeats 4000000 in
set_option maxRecDepth 100000 in
theorem kX3_pass_0 {p : Program} {l : Launch} {e : Env} {s : State} {m : MethodId} {args : Array Value} {below : List Frame} {meth : Method} {cd : Code} {D : va_G} {c : Nat → ClassId} {A : Nat → Prop} (E0 : xE p s m args meth cd D (xT c) A RX3 cX3_pass 5 none wsX3_pass) (a_this : Nat) (a_p0 : Nat) (a_knows : Nat) (a_kind : Nat) (a_on : Nat) (a_has : Nat) (a_p0_leans : Nat) (a_p0_all : Nat) (a_p0_lostWith : Nat) (ev : Nat → Nat) (x_basin : Int32) (x_p0_size : Int32) (x_leeches : Int32) (x_members : Int32) (x_kind : Nat → Int32) (x_p0_lostWith : Nat → Int32) (n : Nat) (rm_minute : Int32) (rm_has : Nat → Int32) (rm_knows : Nat → Int32) (rm_on : Nat → Int32) (hV : xV ev A s) (x_minute : Int32) (x_has : Nat → Int32) (x_knows : Nat → Int32) (x_on : Nat → Int32) (v2 : Int32) (hr : fX3_pass n x_leeches x_members x_kind x_p0_lostWith x_minute x_has x_knows x_on v2 = some (rm_minute, rm_has, rm_knows, rm_on)) : GX3_pass p l e s m args below meth cd D c A a_this a_p0 a_knows a_kind a_on a_has a_p0_leans a_p0_all a_p0_lostWith ev x_basin x_p0_size x_leeches x_members x_kind x_p0_lostWith rm_minute rm_has rm_knows rm_on 0 [] [(0, .ref a_this), (1, .ref a_p0), (2, .int v2)] x_minute x_has x_knows x_on := by
  have E1 := E0
  obtain ⟨hx, hb, hml, hret, hown, hts, hlocks, hA, hK⟩ := E1
  have hVV := hV
  obtain ⟨hn_RX7_9, hn_RX6_17, hn_RX6_24, hn_RX7_18, hn_RX7_25, hn_RX7_45, hn_RX7_52, hn_RX7_65, hn_RX7_70, hn_RX0_31, hn_RX3_53, hn_RX2_57, hn_RX3_65, hn_RX3_86, hz_TAKES, ht_TAKES, hz_HAS_ROOM, ht_HAS_ROOM, hz_SUCH, ht_SUCH, hz_FIRST_FIGURE, ht_FIRST_FIGURE, hz_compact, hz_sioobe, ho_Room, ho_Slate, ho_grid, hstr, hs_0, hs_1, hs_2, hs_3, hs_4, hs_5, hs_6, hs_7, hs_8⟩ := hVV
  intro H locs ls hP hD hS hl
  unfold fX3_pass at hr
  refine lv_iconst (v := 0) hx hb dX3_pass_0 (by decide) ?_
  refine lv_istore_n (lv' := [(3, .int 0), (0, .ref a_this), (1, .ref a_p0), (2, .int v2)]) hx hb dX3_pass_1 rfl hl (by decide) rfl (fun ls hl => ?_)
  exact kX3_pass_2 E0 a_this a_p0 a_knows a_kind a_on a_has a_p0_leans a_p0_all a_p0_lostWith ev x_basin x_p0_size x_leeches x_members x_kind x_p0_lostWith n rm_minute rm_has rm_knows rm_on hV n x_minute x_has x_knows x_on v2 0 hr H locs ls hP hD hS (lv_sub hl [1, 2, 3, 0] rfl)
set_option maxHeartbeats 4000000 in
set_option maxRecDepth 100000 in
theorem mX3_pass (l : Launch) (D : va_G) (c : Nat → ClassId) (a_this : Nat) (a_p0 : Nat) (a_knows : Nat) (a_kind : Nat) (a_on : Nat) (a_has : Nat) (a_p0_leans : Nat) (a_p0_all : Nat) (a_p0_lostWith : Nat) (ev : Nat → Nat) (sz : Nat) (x_basin : Int32) (x_p0_size : Int32) (x_leeches : Int32) (x_members : Int32) (x_kind : Nat → Int32) (x_p0_lostWith : Nat → Int32) (x_minute : Int32) (x_has : Nat → Int32) (x_knows : Nat → Int32) (x_on : Nat → Int32) (v2 : Int32) (n : Nat) (rm_minute : Int32) (rm_has : Nat → Int32) (rm_knows : Nat → Int32) (rm_on : Nat → Int32) (h : fX3_pass n x_leeches x_members x_kind x_p0_lostWith x_minute x_has x_knows x_on v2 = some (rm_minute, rm_has, rm_knows, rm_on)) : Met l yX3_pass wsX3_pass ({ frames := 3, cells := 0, slots := 0, locals := 69 } : Room) (xPc D (xT c) sz [.ref a_this, .ref a_p0, .int v2] (wX3_pass c a_this a_p0 a_knows a_kind a_on a_has a_p0_leans a_p0_all a_p0_lostWith ev x_basin x_p0_size x_leeches x_members x_kind x_p0_lostWith x_minute x_has x_knows x_on) (xV ev (va_A (wX3_pass c a_this a_p0 a_knows a_kind a_on a_has a_p0_leans a_p0_all a_p0_lostWith ev x_basin x_p0_size x_leeches x_members x_kind x_p0_lostWith x_minute x_has x_knows x_on) sz))) (xQv D (xT c) (va_A (wX3_pass c a_this a_p0 a_knows a_kind a_on a_has a_p0_leans a_p0_all a_p0_lostWith ev x_basin x_p0_size x_leeches x_members x_kind x_p0_lostWith x_minute x_has x_knows x_on) sz) (wX3_pass c a_this a_p0 a_knows a_kind a_on a_has a_p0_leans a_p0_all a_p0_lostWith ev x_basin x_p0_size x_leeches x_members x_kind x_p0_lostWith rm_minute rm_has rm_knows rm_on)) 0 0 (va_A (wX3_pass c a_this a_p0 a_knows a_kind a_on a_has a_p0_leans a_p0_all a_p0_lostWith ev x_basin x_p0_size x_leeches x_members x_kind x_p0_lostWith x_minute x_has x_knows x_on) sz) := by
  refine Met.ofW (cc := cX3_pass) (maxL := 5) (ret := none) (by decide) rfl ?_
  intro p e s m args below meth cd s₁ B hml hv
  obtain ⟨rfl, hsz, hP, hK, hD0, hV⟩ := hv
  subst hsz
  have hl := lv_entry [.ref a_this, .ref a_p0, .int v2] (n := 5) (Nat.le_of_ble_eq_true rfl)
  rw [lg_entry_eq]
  exact kX3_pass_0 (A := va_A (wX3_pass c a_this a_p0 a_knows a_kind a_on a_has a_p0_leans a_p0_all a_p0_lostWith ev x_basin x_p0_size x_leeches x_members x_kind x_p0_lostWith x_minute x_has x_knows x_on) s.heap.size) ⟨B.exec, B.bytes, hml, B.returns, findClass_of_methodNamed B.named, atoms_spec (ws := wsX3_pass) B.pre, B.notSynchronized, fun q h => Or.inr h, hK⟩ a_this a_p0 a_knows a_kind a_on a_has a_p0_leans a_p0_all a_p0_lostWith ev x_basin x_p0_size x_leeches x_members x_kind x_p0_lostWith n rm_minute rm_has rm_knows rm_on hV x_minute x_has x_knows x_on v2 h s.heap [] _ hP hD0.self va_S.rf hl

