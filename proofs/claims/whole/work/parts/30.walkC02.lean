abbrev wX0_add (c : Nat → ClassId) (a_this : Nat) (a_leans : Nat) (a_all : Nat) (a_lostWith : Nat) (ev : Nat → Nat) (x_leans : Nat → Int32) (x_all : Nat → Int32) (x_lostWith : Nat → Int32) (x_size : Int32) : va_W := [(a_this, .inr (0, [.int x_size, .ref a_leans, .ref a_all, .ref a_lostWith])), (a_leans, .inl (c 0, 12, .inl x_leans)), (a_all, .inl (c 0, 12, .inl x_all)), (a_lostWith, .inl (c 0, 12, .inl x_lostWith))]
def GX0_add (p : Program) (l : Launch) (e : Env) (s : State) (m : MethodId) (args : Array Value) (below : List Frame) (meth : Method) (cd : Code) (D : va_G) (c : Nat → ClassId) (A : Nat → Prop) (a_this : Nat) (a_leans : Nat) (a_all : Nat) (a_lostWith : Nat) (ev : Nat → Nat) (rm_leans : Nat → Int32) (rm_all : Nat → Int32) (rm_lostWith : Nat → Int32) (rm_size : Int32) (pc : Nat) (st : List Value) (loc : List (Nat × Value)) (x_leans : Nat → Int32) (x_all : Nat → Int32) (x_lostWith : Nat → Int32) (x_size : Int32) : Prop :=
  ∀ (H : Heap) (locs : List Loc) (ls : Array Slot), va_P D vwCl (wX0_add c a_this a_leans a_all a_lostWith ev x_leans x_all x_lostWith x_size) H → va_D A (wX0_add c a_this a_leans a_all a_lostWith ev x_leans x_all x_lostWith x_size) → va_S A s.heap H locs → lv_has ls 4 loc → W p l e ({ frames := 2, cells := 0, slots := 0, locals := 44 } : Room) s m args below meth cd H locs 0 0 (MQ below (xQv D (xT c) A (wX0_add c a_this a_leans a_all a_lostWith ev rm_leans rm_all rm_lostWith rm_size)) args s 0 0 A) (F0 m pc ls st)
theorem lkX0_add_f15 : Cond.fieldLink RX0 15 "LeechClub$Facts" "all" "[I" ∈ wsX0_add := by decide +kernel
theorem lkX0_add_f18 : Cond.fieldLink RX0 18 "LeechClub$Facts" "lostWith" "[I" ∈ wsX0_add := by decide +kernel
theorem lkX0_add_f21 : Cond.fieldLink RX0 21 "LeechClub$Facts" "size" "I" ∈ wsX0_add := by decide +kernel
theorem lkX0_add_f9 : Cond.fieldLink RX0 9 "LeechClub$Facts" "leans" "[I" ∈ wsX0_add := by decide +kernel
theorem lkX0_add_iRX7 : Cond.initialized RX7 ∈ wsX0_add := by decide +kernel
theorem lkX0_add_sX7_hasBit : Cond.static yX7_hasBit ∈ wsX0_add := by decide +kernel
theorem inX0_add_X0 : ∀ w ∈ wsX00, w ∈ wsX0_add := by decide +kernel
set_option maxHeartbeats 4000000 in
set_option maxRecDepth 100000 in
theorem kX0_add_89 {p : Program} {l : Launch} {e : Env} {s : State} {m : MethodId} {args : Array Value} {below : List Frame} {meth : Method} {cd : Code} {D : va_G} {c : Nat → ClassId} {A : Nat → Prop} (E0 : xE p s m args meth cd D (xT c) A RX0 cX0_add 4 none wsX0_add) (a_this : Nat) (a_leans : Nat) (a_all : Nat) (a_lostWith : Nat) (ev : Nat → Nat) (n : Nat) (rm_leans : Nat → Int32) (rm_all : Nat → Int32) (rm_lostWith : Nat → Int32) (rm_size : Int32) (hV : xV ev A s) (r_55 : (Nat → Int32) → (Nat → Int32) → (Nat → Int32) → Int32 → Int32 → Int32 → Option ((Nat → Int32) × (Nat → Int32) × (Nat → Int32) × Int32)) (h_55 : ∀ (x_leans : Nat → Int32) (x_all : Nat → Int32) (x_lostWith : Nat → Int32) (x_size : Int32) (v2 : Int32) (v3 : Int32), r_55 x_leans x_all x_lostWith x_size v2 v3 = some (rm_leans, rm_all, rm_lostWith, rm_size) → GX0_add p l e s m args below meth cd D c A a_this a_leans a_all a_lostWith ev rm_leans rm_all rm_lostWith rm_size 55 [] [(0, .ref a_this), (2, .int v2), (3, .int v3)] x_leans x_all x_lostWith x_size) (x_leans : Nat → Int32) (x_all : Nat → Int32) (x_lostWith : Nat → Int32) (x_size : Int32) (v2 : Int32) (v3 : Int32) (hr : fX0_add_89 n r_55 x_leans x_all x_lostWith x_size v2 v3 = some (rm_leans, rm_all, rm_lostWith, rm_size)) : GX0_add p l e s m args below meth cd D c A a_this a_leans a_all a_lostWith ev rm_leans rm_all rm_lostWith rm_size 89 [] [(0, .ref a_this), (2, .int v2), (3, .int v3)] x_leans x_all x_lostWith x_size := by
  have E1 := E0
  obtain ⟨hx, hb, hml, hret, hown, hts, hlocks, hA, hK⟩ := E1
  have hVV := hV
  obtain ⟨hn_RX7_9, hn_RX6_17, hn_RX6_24, hn_RX7_18, hn_RX7_25, hn_RX7_45, hn_RX7_52, hn_RX7_65, hn_RX7_70, hn_RX0_31, hn_RX3_53, hn_RX2_57, hn_RX3_65, hn_RX3_86, hz_TAKES, ht_TAKES, hz_HAS_ROOM, ht_HAS_ROOM, hz_SUCH, ht_SUCH, hz_FIRST_FIGURE, ht_FIRST_FIGURE, hz_compact, hz_sioobe, ho_Room, ho_Slate, ho_grid, hstr, hs_0, hs_1, hs_2, hs_3, hs_4, hs_5, hs_6, hs_7, hs_8⟩ := hVV
  intro H locs ls hP hD hS hl
  unfold fX0_add_89 at hr
  refine lv_iinc (v := v3 + 1) (lv' := [(3, .int (v3 + 1)), (0, .ref a_this), (2, .int v2)]) hx hb dX0_add_89 hl (k := 2) rfl rfl (by decide) rfl (fun ls hl => ?_)
  refine lv_goto (tgt := 55) hx hb dX0_add_92 (by decide) ?_
  exact h_55 x_leans x_all x_lostWith x_size v2 (v3 + 1) hr H locs ls hP hD hS (lv_sub hl [1, 2, 0] rfl)
set_option maxHeartbeats 4000000 in
set_option maxRecDepth 100000 in
theorem kX0_add_55 {p : Program} {l : Launch} {e : Env} {s : State} {m : MethodId} {args : Array Value} {below : List Frame} {meth : Method} {cd : Code} {D : va_G} {c : Nat → ClassId} {A : Nat → Prop} (E0 : xE p s m args meth cd D (xT c) A RX0 cX0_add 4 none wsX0_add) (a_this : Nat) (a_leans : Nat) (a_all : Nat) (a_lostWith : Nat) (ev : Nat → Nat) (n : Nat) (rm_leans : Nat → Int32) (rm_all : Nat → Int32) (rm_lostWith : Nat → Int32) (rm_size : Int32) (hV : xV ev A s) : ∀ (k : Nat) (x_leans : Nat → Int32) (x_all : Nat → Int32) (x_lostWith : Nat → Int32) (x_size : Int32) (v2 : Int32) (v3 : Int32), fX0_add_55 n k x_leans x_all x_lostWith x_size v2 v3 = some (rm_leans, rm_all, rm_lostWith, rm_size) → GX0_add p l e s m args below meth cd D c A a_this a_leans a_all a_lostWith ev rm_leans rm_all rm_lostWith rm_size 55 [] [(0, .ref a_this), (2, .int v2), (3, .int v3)] x_leans x_all x_lostWith x_size := by
  have E1 := E0
  obtain ⟨hx, hb, hml, hret, hown, hts, hlocks, hA, hK⟩ := E1
  have hVV := hV
  obtain ⟨hn_RX7_9, hn_RX6_17, hn_RX6_24, hn_RX7_18, hn_RX7_25, hn_RX7_45, hn_RX7_52, hn_RX7_65, hn_RX7_70, hn_RX0_31, hn_RX3_53, hn_RX2_57, hn_RX3_65, hn_RX3_86, hz_TAKES, ht_TAKES, hz_HAS_ROOM, ht_HAS_ROOM, hz_SUCH, ht_SUCH, hz_FIRST_FIGURE, ht_FIRST_FIGURE, hz_compact, hz_sioobe, ho_Room, ho_Slate, ho_grid, hstr, hs_0, hs_1, hs_2, hs_3, hs_4, hs_5, hs_6, hs_7, hs_8⟩ := hVV
  intro k
  induction k with
  | zero => intro x_leans x_all x_lostWith x_size v2 v3 hr; cases hr
  | succ k h_55 =>
    intro x_leans x_all x_lostWith x_size v2 v3 hr H locs ls hP hD hS hl
    unfold fX0_add_55 at hr
    refine lv_iload_n hx hb dX0_add_55 rfl (lv_at hl 2 rfl) ?_
    refine lv_aload_n hx hb dX0_add_56 rfl (lv_at hl 0 rfl) ?_
    refine va_get (D := D) (ci := 0) (v := .int x_size) (C := RX0) (T := TX0) (N := 4) hx hb hts inX0_add_X0 hown hK hP 0 rfl rfl 0 (by decide) (hts _ lkX0_add_f21) (fun _ h9 => h9) rfl dX0_add_57 ?_
    refine lv_icmp_ge (tgt := 95) hx hb dX0_add_60 (by decide) (fun c_1 => ?_) (fun c_1 => ?_)
    · have hr := x_ift hr c_1
      refine lv_aload_n hx hb dX0_add_95 rfl (lv_at hl 0 rfl) ?_
      refine lv_dup hx hb dX0_add_96 rfl ?_
      refine va_get (D := D) (ci := 0) (v := .int x_size) (C := RX0) (T := TX0) (N := 4) hx hb hts inX0_add_X0 hown hK hP 0 rfl rfl 0 (by decide) (hts _ lkX0_add_f21) (fun _ h9 => h9) rfl dX0_add_97 ?_
      refine lv_iconst (v := 1) hx hb dX0_add_100 (by decide) ?_
      refine lv_iadd hx hb dX0_add_101 ?_
      refine va_put (D := D) (ci := 0) (v := .int (x_size + 1)) (ty := .int) (C := RX0) (T := TX0) (N := 4) hx hb hts inX0_add_X0 tyX0 tyX0_ok nmX0 hown hK hP hD hS 0 rfl rfl 0 (by decide) (hts _ lkX0_add_f21) (fun _ h9 => h9) rfl (by decide +kernel) rfl rfl (Nat.le_of_ble_eq_true rfl) dX0_add_102 (fun H locs hP hD hS => ?_)
      have hP : va_P D vwCl [(a_this, .inr (0, [.int (x_size + 1), .ref a_leans, .ref a_all, .ref a_lostWith])), (a_leans, .inl (c 0, 12, .inl x_leans)), (a_all, .inl (c 0, 12, .inl x_all)), (a_lostWith, .inl (c 0, 12, .inl x_lostWith))] H := hP
      have hD : va_D A [(a_this, .inr (0, [.int (x_size + 1), .ref a_leans, .ref a_all, .ref a_lostWith])), (a_leans, .inl (c 0, 12, .inl x_leans)), (a_all, .inl (c 0, 12, .inl x_all)), (a_lostWith, .inl (c 0, 12, .inl x_lostWith))] := hD
      have g0 := x_some hr
      have e0 := x_p1 g0
      have g1 := x_p2 g0
      have e1 := x_p1 g1
      have g2 := x_p2 g1
      have e2 := x_p1 g2
      have e3 := x_p2 g2
      subst e0
      subst e1
      subst e2
      subst e3
      exact x_retv hx hb hret hlocks hP hD hK hS dX0_add_105
    · have hr := x_iff hr c_1
      refine lv_aload_n hx hb dX0_add_63 rfl (lv_at hl 0 rfl) ?_
      refine va_get (D := D) (ci := 0) (v := .ref a_all) (C := RX0) (T := TX0) (N := 4) hx hb hts inX0_add_X0 hown hK hP 0 rfl rfl 2 (by decide) (hts _ lkX0_add_f15) (fun _ h9 => h9) rfl dX0_add_64 ?_
      refine lv_aload_n hx hb dX0_add_67 rfl (lv_at hl 0 rfl) ?_
      refine va_get (D := D) (ci := 0) (v := .int x_size) (C := RX0) (T := TX0) (N := 4) hx hb hts inX0_add_X0 hown hK hP 0 rfl rfl 0 (by decide) (hts _ lkX0_add_f21) (fun _ h9 => h9) rfl dX0_add_68 ?_
      obtain ⟨b_2, hr⟩ := x_chk hr
      refine va_iald hx hb hK hP 2 0 rfl rfl b_2 dX0_add_71 ?_
      refine lv_iload_n hx hb dX0_add_72 rfl (lv_at hl 2 rfl) ?_
      obtain ⟨q3_0, hc3, hr⟩ := x_bind hr
      refine x_runi (wr := [(a_this, .inr (0, [.int x_size, .ref a_leans, .ref a_all, .ref a_lostWith])), (a_leans, .inl (c 0, 12, .inl x_leans)), (a_all, .inl (c 0, 12, .inl x_all)), (a_lostWith, .inl (c 0, 12, .inl x_lostWith))]) (wf := [(a_this, .inr (0, [.int x_size, .ref a_leans, .ref a_all, .ref a_lostWith])), (a_leans, .inl (c 0, 12, .inl x_leans)), (a_all, .inl (c 0, 12, .inl x_all)), (a_lostWith, .inl (c 0, 12, .inl x_lostWith))]) (x_goSN (As := [.int (x_all x_size.toNatClampNeg), .int v3]) (rest := []) ⟨hx, hb, hml, hown, hts⟩ (mX7_hasBit l D c H.size (x_all x_size.toNatClampNeg) v3 n _ hc3) ⟨va_cnB 2 hts gX0_add_X7_hasBit_n31 rfl rfl rfl hn_RX0_31 (hts _ lkX0_add_iRX7) (by decide +kernel) ⟨Nat.le_of_ble_eq_true rfl, Nat.le_of_ble_eq_true rfl⟩, hts _ lkX0_add_sX7_hasBit, trivial⟩ xB_t hP hD hK [] rfl (by decide) (fun _ _ _ => trivial) rfl hl.1 rfl (Nat.le_of_ble_eq_true rfl) dX0_add_73) hP hD hS hA [] [0, 1, 2, 3] [0, 1, 2, 3] rfl rfl rfl ⟨by decide, by decide, by decide⟩ (fun H locs hP hD hS => ?_)
      refine lv_if_eq (tgt := 89) hx hb dX0_add_76 (by decide) (fun c_4 => ?_) (fun c_4 => ?_)
      · have hr := x_ift hr c_4
        exact kX0_add_89 E0 a_this a_leans a_all a_lostWith ev n rm_leans rm_all rm_lostWith rm_size hV (fX0_add_55 n k) h_55 x_leans x_all x_lostWith x_size v2 v3 hr H locs ls hP hD hS (lv_sub hl [0, 1, 2] rfl)
      · have hr := x_iff hr c_4
        refine lv_aload_n hx hb dX0_add_79 rfl (lv_at hl 0 rfl) ?_
        refine va_get (D := D) (ci := 0) (v := .ref a_lostWith) (C := RX0) (T := TX0) (N := 4) hx hb hts inX0_add_X0 hown hK hP 0 rfl rfl 3 (by decide) (hts _ lkX0_add_f18) (fun _ h9 => h9) rfl dX0_add_80 ?_
        refine lv_iload_n hx hb dX0_add_83 rfl (lv_at hl 2 rfl) ?_
        refine lv_dup2_11 hx hb dX0_add_84 rfl rfl ?_
        obtain ⟨b_5, hr⟩ := x_chk hr
        refine va_iald hx hb hK hP 3 0 rfl rfl b_5 dX0_add_85 ?_
        refine lv_iload_n hx hb dX0_add_86 rfl (lv_at hl 1 rfl) ?_
        refine lv_ior hx hb dX0_add_87 ?_
        obtain ⟨b_6, hr⟩ := x_chk hr
        refine va_iast hx hb hK hP hD hS 3 0 rfl rfl b_6 dX0_add_88 (fun H locs hP hD hS => ?_)
        have hP : va_P D vwCl [(a_this, .inr (0, [.int x_size, .ref a_leans, .ref a_all, .ref a_lostWith])), (a_leans, .inl (c 0, 12, .inl x_leans)), (a_all, .inl (c 0, 12, .inl x_all)), (a_lostWith, .inl (c 0, 12, .inl (upd x_lostWith v3.toNatClampNeg ((x_lostWith v3.toNatClampNeg) ||| v2))))] H := hP
        have hD : va_D A [(a_this, .inr (0, [.int x_size, .ref a_leans, .ref a_all, .ref a_lostWith])), (a_leans, .inl (c 0, 12, .inl x_leans)), (a_all, .inl (c 0, 12, .inl x_all)), (a_lostWith, .inl (c 0, 12, .inl (upd x_lostWith v3.toNatClampNeg ((x_lostWith v3.toNatClampNeg) ||| v2))))] := hD
        exact kX0_add_89 E0 a_this a_leans a_all a_lostWith ev n rm_leans rm_all rm_lostWith rm_size hV (fX0_add_55 n k) h_55 x_leans x_all (upd x_lostWith v3.toNatClampNeg ((x_lostWith v3.toNatClampNeg) ||| v2)) x_size v2 v3 hr H locs ls hP hD hS (lv_sub hl [0, 1, 2] rfl)
set_option maxHeartbeats 4000000 in
set_option maxRecDepth 100000 in
theorem kX0_add_0 {p : Program} {l : Launch} {e : Env} {s : State} {m : MethodId} {args : Array Value} {below : List Frame} {meth : Method} {cd : Code} {D : va_G} {c : Nat → ClassId} {A : Nat → Prop} (E0 : xE p s m args meth cd D (xT c) A RX0 cX0_add 4 none wsX0_add) (a_this : Nat) (a_leans : Nat) (a_all : Nat) (a_lostWith : Nat) (ev : Nat → Nat) (n : Nat) (rm_leans : Nat → Int32) (rm_all : Nat → Int32) (rm_lostWith : Nat → Int32) (rm_size : Int32) (hV : xV ev A s) (x_leans : Nat → Int32) (x_all : Nat → Int32) (x_lostWith : Nat → Int32) (x_size : Int32) (v1 : Int32) (hr : fX0_add n x_leans x_all x_lostWith x_size v1 = some (rm_leans, rm_all, rm_lostWith, rm_size)) : GX0_add p l e s m args below meth cd D c A a_this a_leans a_all a_lostWith ev rm_leans rm_all rm_lostWith rm_size 0 [] [(0, .ref a_this), (1, .int v1)] x_leans x_all x_lostWith x_size := by
  have E1 := E0
  obtain ⟨hx, hb, hml, hret, hown, hts, hlocks, hA, hK⟩ := E1
  have hVV := hV
  obtain ⟨hn_RX7_9, hn_RX6_17, hn_RX6_24, hn_RX7_18, hn_RX7_25, hn_RX7_45, hn_RX7_52, hn_RX7_65, hn_RX7_70, hn_RX0_31, hn_RX3_53, hn_RX2_57, hn_RX3_65, hn_RX3_86, hz_TAKES, ht_TAKES, hz_HAS_ROOM, ht_HAS_ROOM, hz_SUCH, ht_SUCH, hz_FIRST_FIGURE, ht_FIRST_FIGURE, hz_compact, hz_sioobe, ho_Room, ho_Slate, ho_grid, hstr, hs_0, hs_1, hs_2, hs_3, hs_4, hs_5, hs_6, hs_7, hs_8⟩ := hVV
  intro H locs ls hP hD hS hl
  unfold fX0_add at hr
  refine lv_aload_n hx hb dX0_add_0 rfl (lv_at hl 0 rfl) ?_
  refine va_get (D := D) (ci := 0) (v := .int x_size) (C := RX0) (T := TX0) (N := 4) hx hb hts inX0_add_X0 hown hK hP 0 rfl rfl 0 (by decide) (hts _ lkX0_add_f21) (fun _ h9 => h9) rfl dX0_add_1 ?_
  refine lv_bipush (v := 12) hx hb dX0_add_4 (by decide) ?_
  refine lv_icmp_lt (tgt := 10) hx hb dX0_add_6 (by decide) (fun c_1 => ?_) (fun c_1 => ?_)
  · have hr := x_ift hr c_1
    refine lv_iconst (v := 1) hx hb dX0_add_10 (by decide) ?_
    refine lv_aload_n hx hb dX0_add_11 rfl (lv_at hl 0 rfl) ?_
    refine va_get (D := D) (ci := 0) (v := .int x_size) (C := RX0) (T := TX0) (N := 4) hx hb hts inX0_add_X0 hown hK hP 0 rfl rfl 0 (by decide) (hts _ lkX0_add_f21) (fun _ h9 => h9) rfl dX0_add_12 ?_
    refine lv_ishl hx hb dX0_add_15 ?_
    refine lv_istore_n (lv' := [(2, .int (1 <<< (x_size &&& 31))), (0, .ref a_this), (1, .int v1)]) hx hb dX0_add_16 rfl hl (by decide) rfl (fun ls hl => ?_)
    refine lv_aload_n hx hb dX0_add_17 rfl (lv_at hl 1 rfl) ?_
    refine va_get (D := D) (ci := 0) (v := .ref a_leans) (C := RX0) (T := TX0) (N := 4) hx hb hts inX0_add_X0 hown hK hP 0 rfl rfl 1 (by decide) (hts _ lkX0_add_f9) (fun _ h9 => h9) rfl dX0_add_18 ?_
    refine lv_aload_n hx hb dX0_add_21 rfl (lv_at hl 1 rfl) ?_
    refine va_get (D := D) (ci := 0) (v := .int x_size) (C := RX0) (T := TX0) (N := 4) hx hb hts inX0_add_X0 hown hK hP 0 rfl rfl 0 (by decide) (hts _ lkX0_add_f21) (fun _ h9 => h9) rfl dX0_add_22 ?_
    refine lv_iload_n hx hb dX0_add_25 rfl (lv_at hl 2 rfl) ?_
    obtain ⟨b_2, hr⟩ := x_chk hr
    refine va_iast hx hb hK hP hD hS 1 0 rfl rfl b_2 dX0_add_26 (fun H locs hP hD hS => ?_)
    have hP : va_P D vwCl [(a_this, .inr (0, [.int x_size, .ref a_leans, .ref a_all, .ref a_lostWith])), (a_leans, .inl (c 0, 12, .inl (upd x_leans x_size.toNatClampNeg v1))), (a_all, .inl (c 0, 12, .inl x_all)), (a_lostWith, .inl (c 0, 12, .inl x_lostWith))] H := hP
    have hD : va_D A [(a_this, .inr (0, [.int x_size, .ref a_leans, .ref a_all, .ref a_lostWith])), (a_leans, .inl (c 0, 12, .inl (upd x_leans x_size.toNatClampNeg v1))), (a_all, .inl (c 0, 12, .inl x_all)), (a_lostWith, .inl (c 0, 12, .inl x_lostWith))] := hD
    refine lv_aload_n hx hb dX0_add_27 rfl (lv_at hl 1 rfl) ?_
    refine va_get (D := D) (ci := 0) (v := .ref a_all) (C := RX0) (T := TX0) (N := 4) hx hb hts inX0_add_X0 hown hK hP 0 rfl rfl 2 (by decide) (hts _ lkX0_add_f15) (fun _ h9 => h9) rfl dX0_add_28 ?_
    refine lv_aload_n hx hb dX0_add_31 rfl (lv_at hl 1 rfl) ?_
    refine va_get (D := D) (ci := 0) (v := .int x_size) (C := RX0) (T := TX0) (N := 4) hx hb hts inX0_add_X0 hown hK hP 0 rfl rfl 0 (by decide) (hts _ lkX0_add_f21) (fun _ h9 => h9) rfl dX0_add_32 ?_
    refine lv_aload_n hx hb dX0_add_35 rfl (lv_at hl 1 rfl) ?_
    refine lv_iload_n hx hb dX0_add_36 rfl (lv_at hl 2 rfl) ?_
    obtain ⟨q3_0, hc3, hr⟩ := x_bind hr
    refine x_runi (wr := [(a_leans, .inl (c 0, 12, .inl (upd x_leans x_size.toNatClampNeg v1))), (a_lostWith, .inl (c 0, 12, .inl x_lostWith))]) (wf := [(a_this, .inr (0, [.int x_size, .ref a_leans, .ref a_all, .ref a_lostWith])), (a_leans, .inl (c 0, 12, .inl (upd x_leans x_size.toNatClampNeg v1))), (a_all, .inl (c 0, 12, .inl x_all)), (a_lostWith, .inl (c 0, 12, .inl x_lostWith))]) (x_goV (As := [.int v1]) (rest := [.int x_size, .ref a_all]) ⟨hx, hb, hml, hown, hts⟩ (mX0_allOf l D c a_this a_leans a_all a_lostWith ev H.size x_size x_all v1 n _ hc3) (cwV 1 hts gX0_add_X0_allOf rfl rfl rfl (by decide +kernel) ⟨Nat.le_of_ble_eq_true rfl, Nat.le_of_ble_eq_true rfl⟩) xV_b hP hD hK [0, 2] rfl (by decide) (fun U hU hW => xV_call hV hS (va_free hD hS hA [0, 2] rfl) hU hW) 0 0 rfl rfl rfl rfl hl.1 rfl (Nat.le_of_ble_eq_true rfl) dX0_add_37) hP hD hS hA [0, 2] [1, 3] [2, 0, 3, 1] rfl rfl rfl ⟨by decide, by decide, by decide⟩ (fun H locs hP hD hS => ?_)
    refine lv_iload_n hx hb dX0_add_40 rfl (lv_at hl 0 rfl) ?_
    refine lv_ior hx hb dX0_add_41 ?_
    obtain ⟨b_4, hr⟩ := x_chk hr
    refine va_iast hx hb hK hP hD hS 2 0 rfl rfl b_4 dX0_add_42 (fun H locs hP hD hS => ?_)
    have hP : va_P D vwCl [(a_this, .inr (0, [.int x_size, .ref a_leans, .ref a_all, .ref a_lostWith])), (a_leans, .inl (c 0, 12, .inl (upd x_leans x_size.toNatClampNeg v1))), (a_all, .inl (c 0, 12, .inl (upd x_all x_size.toNatClampNeg (q3_0 ||| (1 <<< (x_size &&& 31)))))), (a_lostWith, .inl (c 0, 12, .inl x_lostWith))] H := hP
    have hD : va_D A [(a_this, .inr (0, [.int x_size, .ref a_leans, .ref a_all, .ref a_lostWith])), (a_leans, .inl (c 0, 12, .inl (upd x_leans x_size.toNatClampNeg v1))), (a_all, .inl (c 0, 12, .inl (upd x_all x_size.toNatClampNeg (q3_0 ||| (1 <<< (x_size &&& 31)))))), (a_lostWith, .inl (c 0, 12, .inl x_lostWith))] := hD
    refine lv_aload_n hx hb dX0_add_43 rfl (lv_at hl 1 rfl) ?_
    refine va_get (D := D) (ci := 0) (v := .ref a_lostWith) (C := RX0) (T := TX0) (N := 4) hx hb hts inX0_add_X0 hown hK hP 0 rfl rfl 3 (by decide) (hts _ lkX0_add_f18) (fun _ h9 => h9) rfl dX0_add_44 ?_
    refine lv_aload_n hx hb dX0_add_47 rfl (lv_at hl 1 rfl) ?_
    refine va_get (D := D) (ci := 0) (v := .int x_size) (C := RX0) (T := TX0) (N := 4) hx hb hts inX0_add_X0 hown hK hP 0 rfl rfl 0 (by decide) (hts _ lkX0_add_f21) (fun _ h9 => h9) rfl dX0_add_48 ?_
    refine lv_iload_n hx hb dX0_add_51 rfl (lv_at hl 0 rfl) ?_
    obtain ⟨b_5, hr⟩ := x_chk hr
    refine va_iast hx hb hK hP hD hS 3 0 rfl rfl b_5 dX0_add_52 (fun H locs hP hD hS => ?_)
    have hP : va_P D vwCl [(a_this, .inr (0, [.int x_size, .ref a_leans, .ref a_all, .ref a_lostWith])), (a_leans, .inl (c 0, 12, .inl (upd x_leans x_size.toNatClampNeg v1))), (a_all, .inl (c 0, 12, .inl (upd x_all x_size.toNatClampNeg (q3_0 ||| (1 <<< (x_size &&& 31)))))), (a_lostWith, .inl (c 0, 12, .inl (upd x_lostWith x_size.toNatClampNeg (1 <<< (x_size &&& 31)))))] H := hP
    have hD : va_D A [(a_this, .inr (0, [.int x_size, .ref a_leans, .ref a_all, .ref a_lostWith])), (a_leans, .inl (c 0, 12, .inl (upd x_leans x_size.toNatClampNeg v1))), (a_all, .inl (c 0, 12, .inl (upd x_all x_size.toNatClampNeg (q3_0 ||| (1 <<< (x_size &&& 31)))))), (a_lostWith, .inl (c 0, 12, .inl (upd x_lostWith x_size.toNatClampNeg (1 <<< (x_size &&& 31)))))] := hD
    refine lv_iconst (v := 0) hx hb dX0_add_53 (by decide) ?_
    refine lv_istore_n (lv' := [(3, .int 0), (2, .int (1 <<< (x_size &&& 31))), (0, .ref a_this), (1, .int v1)]) hx hb dX0_add_54 rfl hl (by decide) rfl (fun ls hl => ?_)
    exact kX0_add_55 E0 a_this a_leans a_all a_lostWith ev n rm_leans rm_all rm_lostWith rm_size hV n (upd x_leans x_size.toNatClampNeg v1) (upd x_all x_size.toNatClampNeg (q3_0 ||| (1 <<< (x_size &&& 31)))) (upd x_lostWith x_size.toNatClampNeg (1 <<< (x_size &&& 31))) x_size (1 <<< (x_size &&& 31)) 0 hr H locs ls hP hD hS (lv_sub hl [2, 1, 0] rfl)
  · have hr := x_iff hr c_1
    have g0 := x_some hr
    have e0 := x_p1 g0
    have g1 := x_p2 g0
    have e1 := x_p1 g1
    have g2 := x_p2 g1
    have e2 := x_p1 g2
    have e3 := x_p2 g2
    subst e0
    subst e1
    subst e2
    subst e3
    exact x_retv hx hb hret hlocks hP hD hK hS dX0_add_9
set_option maxHeartbeats 4000000 in
set_option maxRecDepth 100000 in
theorem mX0_add (l : Launch) (D : va_G) (c : Nat → ClassId) (a_this : Nat) (a_leans : Nat) (a_all : Nat) (a_lostWith : Nat) (ev : Nat → Nat) (sz : Nat) (x_leans : Nat → Int32) (x_all : Nat → Int32) (x_lostWith : Nat → Int32) (x_size : Int32) (v1 : Int32) (n : Nat) (rm_leans : Nat → Int32) (rm_all : Nat → Int32) (rm_lostWith : Nat → Int32) (rm_size : Int32) (h : fX0_add n x_leans x_all x_lostWith x_size v1 = some (rm_leans, rm_all, rm_lostWith, rm_size)) : Met l yX0_add wsX0_add ({ frames := 2, cells := 0, slots := 0, locals := 44 } : Room) (xPc D (xT c) sz [.ref a_this, .int v1] (wX0_add c a_this a_leans a_all a_lostWith ev x_leans x_all x_lostWith x_size) (xV ev (va_A (wX0_add c a_this a_leans a_all a_lostWith ev x_leans x_all x_lostWith x_size) sz))) (xQv D (xT c) (va_A (wX0_add c a_this a_leans a_all a_lostWith ev x_leans x_all x_lostWith x_size) sz) (wX0_add c a_this a_leans a_all a_lostWith ev rm_leans rm_all rm_lostWith rm_size)) 0 0 (va_A (wX0_add c a_this a_leans a_all a_lostWith ev x_leans x_all x_lostWith x_size) sz) := by
  refine Met.ofW (cc := cX0_add) (maxL := 4) (ret := none) (by decide) rfl ?_
  intro p e s m args below meth cd s₁ B hml hv
  obtain ⟨rfl, hsz, hP, hK, hD0, hV⟩ := hv
  subst hsz
  have hl := lv_entry [.ref a_this, .int v1] (n := 4) (Nat.le_of_ble_eq_true rfl)
  rw [lg_entry_eq]
  exact kX0_add_0 (A := va_A (wX0_add c a_this a_leans a_all a_lostWith ev x_leans x_all x_lostWith x_size) s.heap.size) ⟨B.exec, B.bytes, hml, B.returns, findClass_of_methodNamed B.named, atoms_spec (ws := wsX0_add) B.pre, B.notSynchronized, fun q h => Or.inr h, hK⟩ a_this a_leans a_all a_lostWith ev n rm_leans rm_all rm_lostWith rm_size hV x_leans x_all x_lostWith x_size v1 h s.heap [] _ hP hD0.self va_S.rf hl

abbrev wX1_commonDivisor (c : Nat → ClassId) : va_W := []
def GX1_commonDivisor (p : Program) (l : Launch) (e : Env) (s : State) (m : MethodId) (args : Array Value) (below : List Frame) (meth : Method) (cd : Code) (D : va_G) (c : Nat → ClassId) (A : Nat → Prop) (r_ret : Int64) (pc : Nat) (st : List Value) (loc : List (Nat × Value)) : Prop :=
  ∀ (H : Heap) (locs : List Loc) (ls : Array Slot), va_P D vwCl (wX1_commonDivisor c) H → va_D A (wX1_commonDivisor c) → va_S A s.heap H locs → lv_has ls 11 loc → W p l e ({ frames := 0, cells := 0, slots := 0, locals := 0 } : Room) s m args below meth cd H locs 0 0 (MQ below (xQl D (xT c) A r_ret (wX1_commonDivisor c)) args s 0 0 A) (F0 m pc ls st)
set_option maxHeartbeats 4000000 in
set_option maxRecDepth 100000 in
theorem kX1_commonDivisor_44 {p : Program} {l : Launch} {e : Env} {s : State} {m : MethodId} {args : Array Value} {below : List Frame} {meth : Method} {cd : Code} {D : va_G} {c : Nat → ClassId} {A : Nat → Prop} (E0 : xE p s m args meth cd D (xT c) A RX1 cX1_commonDivisor 11 (some .long) wsX1_commonDivisor) (n : Nat) (r_ret : Int64) (v4 : Int64) (hr : fX1_commonDivisor_44 n v4 = some (r_ret)) : GX1_commonDivisor p l e s m args below meth cd D c A r_ret 44 [] [(4, .long v4)] := by
  have E1 := E0
  obtain ⟨hx, hb, hml, hret, hown, hts, hlocks, hA, hK⟩ := E1
  intro H locs ls hP hD hS hl
  unfold fX1_commonDivisor_44 at hr
  refine lv_lload hx hb dX1_commonDivisor_44 (lv_at hl 0 rfl) ?_
  have e0 := x_some hr
  subst e0
  exact x_retl hx hb hret hlocks hP hD hK hS dX1_commonDivisor_46
set_option maxHeartbeats 4000000 in
set_option maxRecDepth 100000 in
theorem kX1_commonDivisor_9 {p : Program} {l : Launch} {e : Env} {s : State} {m : MethodId} {args : Array Value} {below : List Frame} {meth : Method} {cd : Code} {D : va_G} {c : Nat → ClassId} {A : Nat → Prop} (E0 : xE p s m args meth cd D (xT c) A RX1 cX1_commonDivisor 11 (some .long) wsX1_commonDivisor) (n : Nat) (r_ret : Int64) : ∀ (k : Nat) (v4 : Int64) (v6 : Int64) (v8 : Int32), fX1_commonDivisor_9 n k v4 v6 v8 = some (r_ret) → GX1_commonDivisor p l e s m args below meth cd D c A r_ret 9 [] [(4, .long v4), (6, .long v6), (8, .int v8)] := by
  have E1 := E0
  obtain ⟨hx, hb, hml, hret, hown, hts, hlocks, hA, hK⟩ := E1
  intro k
  induction k with
  | zero => intro v4 v6 v8 hr; cases hr
  | succ k h_9 =>
    intro v4 v6 v8 hr H locs ls hP hD hS hl
    unfold fX1_commonDivisor_9 at hr
    refine lv_iload hx hb dX1_commonDivisor_9 (lv_at hl 2 rfl) ?_
    refine lv_bipush (v := 100) hx hb dX1_commonDivisor_11 (by decide) ?_
    refine lv_icmp_ge (tgt := 44) hx hb dX1_commonDivisor_13 (by decide) (fun c_1 => ?_) (fun c_1 => ?_)
    · have hr := x_ift hr c_1
      exact kX1_commonDivisor_44 E0 n r_ret v4 hr H locs ls hP hD hS (lv_sub hl [0] rfl)
    · have hr := x_iff hr c_1
      refine lv_lload hx hb dX1_commonDivisor_16 (lv_at hl 1 rfl) ?_
      refine lv_lconst (v := 0) hx hb dX1_commonDivisor_18 (by decide) ?_
      refine W.lcmp hx hb dX1_commonDivisor_19 ?_
      refine lv_if_eq (tgt := 44) hx hb dX1_commonDivisor_20 (by decide) (fun c_2 => ?_) (fun c_2 => ?_)
      · have hr := x_ift hr c_2
        exact kX1_commonDivisor_44 E0 n r_ret v4 hr H locs ls hP hD hS (lv_sub hl [0] rfl)
      · have hr := x_iff hr c_2
        refine lv_lload hx hb dX1_commonDivisor_23 (lv_at hl 0 rfl) ?_
        refine lv_lload hx hb dX1_commonDivisor_25 (lv_at hl 1 rfl) ?_
        obtain ⟨b_3, hr⟩ := x_chk hr
        refine lv_lrem hx hb dX1_commonDivisor_27 b_3 ?_
        refine lv_lstore (lv' := [(9, .long (v4 - v4 / v6 * v6)), (4, .long v4), (6, .long v6), (8, .int v8)]) hx hb dX1_commonDivisor_28 hl (by decide) rfl (fun ls hl => ?_)
        refine lv_lload hx hb dX1_commonDivisor_30 (lv_at hl 2 rfl) ?_
        refine lv_lstore (lv' := [(4, .long v6), (9, .long (v4 - v4 / v6 * v6)), (6, .long v6), (8, .int v8)]) hx hb dX1_commonDivisor_32 hl (by decide) rfl (fun ls hl => ?_)
        refine lv_lload hx hb dX1_commonDivisor_34 (lv_at hl 1 rfl) ?_
        refine lv_lstore (lv' := [(6, .long (v4 - v4 / v6 * v6)), (4, .long v6), (9, .long (v4 - v4 / v6 * v6)), (8, .int v8)]) hx hb dX1_commonDivisor_36 hl (by decide) rfl (fun ls hl => ?_)
        refine lv_iinc (v := v8 + 1) (lv' := [(8, .int (v8 + 1)), (6, .long (v4 - v4 / v6 * v6)), (4, .long v6), (9, .long (v4 - v4 / v6 * v6))]) hx hb dX1_commonDivisor_38 hl (k := 3) rfl rfl (by decide) rfl (fun ls hl => ?_)
        refine lv_goto (tgt := 9) hx hb dX1_commonDivisor_41 (by decide) ?_
        exact h_9 v6 (v4 - v4 / v6 * v6) (v8 + 1) hr H locs ls hP hD hS (lv_sub hl [2, 1, 0] rfl)
set_option maxHeartbeats 4000000 in
set_option maxRecDepth 100000 in
theorem kX1_commonDivisor_0 {p : Program} {l : Launch} {e : Env} {s : State} {m : MethodId} {args : Array Value} {below : List Frame} {meth : Method} {cd : Code} {D : va_G} {c : Nat → ClassId} {A : Nat → Prop} (E0 : xE p s m args meth cd D (xT c) A RX1 cX1_commonDivisor 11 (some .long) wsX1_commonDivisor) (n : Nat) (r_ret : Int64) (v0 : Int64) (v2 : Int64) (hr : fX1_commonDivisor n v0 v2 = some (r_ret)) : GX1_commonDivisor p l e s m args below meth cd D c A r_ret 0 [] [(0, .long v0), (2, .long v2)] := by
  have E1 := E0
  obtain ⟨hx, hb, hml, hret, hown, hts, hlocks, hA, hK⟩ := E1
  intro H locs ls hP hD hS hl
  unfold fX1_commonDivisor at hr
  refine lv_lload_n hx hb dX1_commonDivisor_0 rfl (lv_at hl 0 rfl) ?_
  refine lv_lstore (lv' := [(4, .long v0), (0, .long v0), (2, .long v2)]) hx hb dX1_commonDivisor_1 hl (by decide) rfl (fun ls hl => ?_)
  refine lv_lload_n hx hb dX1_commonDivisor_3 rfl (lv_at hl 2 rfl) ?_
  refine lv_lstore (lv' := [(6, .long v2), (4, .long v0), (0, .long v0), (2, .long v2)]) hx hb dX1_commonDivisor_4 hl (by decide) rfl (fun ls hl => ?_)
  refine lv_iconst (v := 0) hx hb dX1_commonDivisor_6 (by decide) ?_
  refine lv_istore (lv' := [(8, .int 0), (6, .long v2), (4, .long v0), (0, .long v0), (2, .long v2)]) hx hb dX1_commonDivisor_7 hl (by decide) rfl (fun ls hl => ?_)
  exact kX1_commonDivisor_9 E0 n r_ret n v0 v2 0 hr H locs ls hP hD hS (lv_sub hl [2, 1, 0] rfl)
set_option maxHeartbeats 4000000 in
set_option maxRecDepth 100000 in
theorem mX1_commonDivisor (l : Launch) (D : va_G) (c : Nat → ClassId) (sz : Nat) (v0 : Int64) (v2 : Int64) (n : Nat) (r_ret : Int64) (h : fX1_commonDivisor n v0 v2 = some (r_ret)) : Met l yX1_commonDivisor wsX1_commonDivisor ({ frames := 0, cells := 0, slots := 0, locals := 0 } : Room) (xPc D (xT c) sz [.long v0, .long v2] (wX1_commonDivisor c) (fun _ => True)) (xQl D (xT c) (va_A (wX1_commonDivisor c) sz) r_ret (wX1_commonDivisor c)) 0 0 (va_A (wX1_commonDivisor c) sz) := by
  refine Met.ofW (cc := cX1_commonDivisor) (maxL := 11) (ret := (some .long)) (by decide) rfl ?_
  intro p e s m args below meth cd s₁ B hml hv
  obtain ⟨rfl, hsz, hP, hK, hD0, hV⟩ := hv
  subst hsz
  have hl := lv_entry [.long v0, .long v2] (n := 11) (Nat.le_of_ble_eq_true rfl)
  rw [lg_entry_eq]
  exact kX1_commonDivisor_0 (A := va_A (wX1_commonDivisor c) s.heap.size) ⟨B.exec, B.bytes, hml, B.returns, findClass_of_methodNamed B.named, atoms_spec (ws := wsX1_commonDivisor) B.pre, B.notSynchronized, fun q h => Or.inr h, hK⟩ n r_ret v0 v2 h s.heap [] _ hP hD0.self va_S.rf hl

abbrev wX1_setLowest (c : Nat → ClassId) (a_this : Nat) (x_above : Int64) (x_below : Int64) : va_W := [(a_this, .inr (1, [.long x_above, .long x_below]))]
def GX1_setLowest (p : Program) (l : Launch) (e : Env) (s : State) (m : MethodId) (args : Array Value) (below : List Frame) (meth : Method) (cd : Code) (D : va_G) (c : Nat → ClassId) (A : Nat → Prop) (a_this : Nat) (rm_above : Int64) (rm_below : Int64) (pc : Nat) (st : List Value) (loc : List (Nat × Value)) (x_above : Int64) (x_below : Int64) : Prop :=
  ∀ (H : Heap) (locs : List Loc) (ls : Array Slot), va_P D vwCl (wX1_setLowest c a_this x_above x_below) H → va_D A (wX1_setLowest c a_this x_above x_below) → va_S A s.heap H locs → lv_has ls 7 loc → W p l e ({ frames := 1, cells := 0, slots := 0, locals := 100 } : Room) s m args below meth cd H locs 0 0 (MQ below (xQv D (xT c) A (wX1_setLowest c a_this rm_above rm_below)) args s 0 0 A) (F0 m pc ls st)
theorem lkX1_setLowest_f23 : Cond.fieldLink RX1 23 "LeechClub$Part" "above" "J" ∈ wsX1_setLowest := by decide +kernel
theorem lkX1_setLowest_f7 : Cond.fieldLink RX1 7 "LeechClub$Part" "below" "J" ∈ wsX1_setLowest := by decide +kernel
theorem lkX1_setLowest_ma13 : Cond.methodLink RX1 13 Lib.MathLoose.abs_long.x ∈ wsX1_setLowest := by decide +kernel
theorem lkX1_setLowest_mas : Cond.static Lib.MathLoose.abs_long.x ∈ wsX1_setLowest := by decide +kernel
theorem lkX1_setLowest_mi : Cond.initialized "java/lang/Math" ∈ wsX1_setLowest := by decide +kernel
theorem lkX1_setLowest_mac : Cond.code Lib.MathLoose.abs_long.x Lib.MathLoose.abs_long.code 2 (some .long) ∈ wsX1_setLowest := by decide +kernel
theorem inX1_setLowest_X1 : ∀ w ∈ wsX10, w ∈ wsX1_setLowest := by decide +kernel
set_option maxHeartbeats 4000000 in
set_option maxRecDepth 100000 in
theorem kX1_setLowest_33 {p : Program} {l : Launch} {e : Env} {s : State} {m : MethodId} {args : Array Value} {below : List Frame} {meth : Method} {cd : Code} {D : va_G} {c : Nat → ClassId} {A : Nat → Prop} (E0 : xE p s m args meth cd D (xT c) A RX1 cX1_setLowest 7 none wsX1_setLowest) (a_this : Nat) (n : Nat) (rm_above : Int64) (rm_below : Int64) (x_above : Int64) (x_below : Int64) (hr : fX1_setLowest_33 n x_above x_below = some (rm_above, rm_below)) : GX1_setLowest p l e s m args below meth cd D c A a_this rm_above rm_below 33 [] [] x_above x_below := by
  have E1 := E0
  obtain ⟨hx, hb, hml, hret, hown, hts, hlocks, hA, hK⟩ := E1
  intro H locs ls hP hD hS hl
  unfold fX1_setLowest_33 at hr
  have g0 := x_some hr
  have e0 := x_p1 g0
  have e1 := x_p2 g0
  subst e0
  subst e1
  exact x_retv hx hb hret hlocks hP hD hK hS dX1_setLowest_33
set_option maxHeartbeats 4000000 in
set_option maxRecDepth 100000 in
theorem kX1_setLowest_0 {p : Program} {l : Launch} {e : Env} {s : State} {m : MethodId} {args : Array Value} {below : List Frame} {meth : Method} {cd : Code} {D : va_G} {c : Nat → ClassId} {A : Nat → Prop} (E0 : xE p s m args meth cd D (xT c) A RX1 cX1_setLowest 7 none wsX1_setLowest) (a_this : Nat) (n : Nat) (rm_above : Int64) (rm_below : Int64) (x_above : Int64) (x_below : Int64) (v1 : Int64) (v3 : Int64) (hr : fX1_setLowest n x_above x_below v1 v3 = some (rm_above, rm_below)) : GX1_setLowest p l e s m args below meth cd D c A a_this rm_above rm_below 0 [] [(0, .ref a_this), (1, .long v1), (3, .long v3)] x_above x_below := by
  have E1 := E0
  obtain ⟨hx, hb, hml, hret, hown, hts, hlocks, hA, hK⟩ := E1
  intro H locs ls hP hD hS hl
  unfold fX1_setLowest at hr
  refine lv_lload_n hx hb dX1_setLowest_0 rfl (lv_at hl 1 rfl) ?_
  refine va_mabs_long hx hb (hml.trans hl.1.symm) hown (hts _ lkX1_setLowest_ma13) (hts _ lkX1_setLowest_mas) (hts _ lkX1_setLowest_mi) (hts _ lkX1_setLowest_mac) (Nat.le_of_ble_eq_true rfl) (Nat.le_of_ble_eq_true rfl) (Nat.zero_le _) (Nat.zero_le _) dX1_setLowest_1 ?_
  refine lv_lload_n hx hb dX1_setLowest_4 rfl (lv_at hl 2 rfl) ?_
  obtain ⟨q1_0, hc1, hr⟩ := x_bind hr
  refine x_runl (wr := [(a_this, .inr (1, [.long x_above, .long x_below]))]) (wf := [(a_this, .inr (1, [.long x_above, .long x_below]))]) (x_goS (As := [.long (if 0 < v1 then v1 else -v1), .long v3]) (rest := []) ⟨hx, hb, hml, hown, hts⟩ (mX1_commonDivisor l D c H.size (if 0 < v1 then v1 else -v1) v3 n _ hc1) (va_cwS 2 hts gX1_setLowest_X1_commonDivisor rfl rfl rfl (by decide +kernel) ⟨Nat.le_of_ble_eq_true rfl, Nat.le_of_ble_eq_true rfl⟩) xB_t hP hD hK [] rfl (by decide) (fun _ _ _ => trivial) rfl hl.1 rfl (Nat.le_of_ble_eq_true rfl) dX1_setLowest_5) hP hD hS hA [] [0] [0] rfl rfl rfl ⟨by decide, by decide, by decide⟩ (fun H locs hP hD hS => ?_)
  refine lv_lstore (lv' := [(5, .long q1_0), (0, .ref a_this), (1, .long v1), (3, .long v3)]) hx hb dX1_setLowest_8 hl (by decide) rfl (fun ls hl => ?_)
  refine lv_lload hx hb dX1_setLowest_10 (lv_at hl 0 rfl) ?_
  refine lv_lconst (v := 0) hx hb dX1_setLowest_12 (by decide) ?_
  refine W.lcmp hx hb dX1_setLowest_13 ?_
  refine lv_if_le (tgt := 33) hx hb dX1_setLowest_14 (by decide) (fun c_2 => ?_) (fun c_2 => ?_)
  · have hr := x_ift hr c_2
    exact kX1_setLowest_33 E0 a_this n rm_above rm_below x_above x_below hr H locs ls hP hD hS (lv_sub hl [] rfl)
  · have hr := x_iff hr c_2
    refine lv_aload_n hx hb dX1_setLowest_17 rfl (lv_at hl 1 rfl) ?_
    refine lv_lload_n hx hb dX1_setLowest_18 rfl (lv_at hl 2 rfl) ?_
    refine lv_lload hx hb dX1_setLowest_19 (lv_at hl 0 rfl) ?_
    obtain ⟨b_3, hr⟩ := x_chk hr
    refine lv_ldiv hx hb dX1_setLowest_21 b_3 ?_
    refine va_put (D := D) (ci := 1) (v := .long (v1 / q1_0)) (ty := .long) (C := RX1) (T := TX1) (N := 2) hx hb hts inX1_setLowest_X1 tyX1 tyX1_ok nmX1 hown hK hP hD hS 0 rfl rfl 0 (by decide) (hts _ lkX1_setLowest_f23) (fun _ h9 => h9) rfl (by decide +kernel) rfl rfl (Nat.le_of_ble_eq_true rfl) dX1_setLowest_22 (fun H locs hP hD hS => ?_)
    have hP : va_P D vwCl [(a_this, .inr (1, [.long (v1 / q1_0), .long x_below]))] H := hP
    have hD : va_D A [(a_this, .inr (1, [.long (v1 / q1_0), .long x_below]))] := hD
    refine lv_aload_n hx hb dX1_setLowest_25 rfl (lv_at hl 1 rfl) ?_
    refine lv_lload_n hx hb dX1_setLowest_26 rfl (lv_at hl 3 rfl) ?_
    refine lv_lload hx hb dX1_setLowest_27 (lv_at hl 0 rfl) ?_
    obtain ⟨b_4, hr⟩ := x_chk hr
    refine lv_ldiv hx hb dX1_setLowest_29 b_4 ?_
    refine va_put (D := D) (ci := 1) (v := .long (v3 / q1_0)) (ty := .long) (C := RX1) (T := TX1) (N := 2) hx hb hts inX1_setLowest_X1 tyX1 tyX1_ok nmX1 hown hK hP hD hS 0 rfl rfl 1 (by decide) (hts _ lkX1_setLowest_f7) (fun _ h9 => h9) rfl (by decide +kernel) rfl rfl (Nat.le_of_ble_eq_true rfl) dX1_setLowest_30 (fun H locs hP hD hS => ?_)
    have hP : va_P D vwCl [(a_this, .inr (1, [.long (v1 / q1_0), .long (v3 / q1_0)]))] H := hP
    have hD : va_D A [(a_this, .inr (1, [.long (v1 / q1_0), .long (v3 / q1_0)]))] := hD
    exact kX1_setLowest_33 E0 a_this n rm_above rm_below (v1 / q1_0) (v3 / q1_0) hr H locs ls hP hD hS (lv_sub hl [] rfl)
set_option maxHeartbeats 4000000 in
set_option maxRecDepth 100000 in
theorem mX1_setLowest (l : Launch) (D : va_G) (c : Nat → ClassId) (a_this : Nat) (sz : Nat) (x_above : Int64) (x_below : Int64) (v1 : Int64) (v3 : Int64) (n : Nat) (rm_above : Int64) (rm_below : Int64) (h : fX1_setLowest n x_above x_below v1 v3 = some (rm_above, rm_below)) : Met l yX1_setLowest wsX1_setLowest ({ frames := 1, cells := 0, slots := 0, locals := 100 } : Room) (xPc D (xT c) sz [.ref a_this, .long v1, .long v3] (wX1_setLowest c a_this x_above x_below) (fun _ => True)) (xQv D (xT c) (va_A (wX1_setLowest c a_this x_above x_below) sz) (wX1_setLowest c a_this rm_above rm_below)) 0 0 (va_A (wX1_setLowest c a_this x_above x_below) sz) := by
  refine Met.ofW (cc := cX1_setLowest) (maxL := 7) (ret := none) (by decide) rfl ?_
  intro p e s m args below meth cd s₁ B hml hv
  obtain ⟨rfl, hsz, hP, hK, hD0, hV⟩ := hv
  subst hsz
  have hl := lv_entry [.ref a_this, .long v1, .long v3] (n := 7) (Nat.le_of_ble_eq_true rfl)
  rw [lg_entry_eq]
  exact kX1_setLowest_0 (A := va_A (wX1_setLowest c a_this x_above x_below) s.heap.size) ⟨B.exec, B.bytes, hml, B.returns, findClass_of_methodNamed B.named, atoms_spec (ws := wsX1_setLowest) B.pre, B.notSynchronized, fun q h => Or.inr h, hK⟩ a_this n rm_above rm_below x_above x_below v1 v3 h s.heap [] _ hP hD0.self va_S.rf hl

abbrev wX3_leechesOn (c : Nat → ClassId) (a_this : Nat) (a_knows : Nat) (a_kind : Nat) (a_on : Nat) (a_has : Nat) (x_members : Int32) (x_basin : Int32) (x_minute : Int32) (x_leeches : Int32) (x_on : Nat → Int32) : va_W := [(a_this, .inr (3, [.int x_members, .int x_leeches, .int x_basin, .int x_minute, .ref a_knows, .ref a_kind, .ref a_on, .ref a_has])), (a_on, .inl (c 0, 5, .inl x_on))]
def GX3_leechesOn (p : Program) (l : Launch) (e : Env) (s : State) (m : MethodId) (args : Array Value) (below : List Frame) (meth : Method) (cd : Code) (D : va_G) (c : Nat → ClassId) (A : Nat → Prop) (a_this : Nat) (a_knows : Nat) (a_kind : Nat) (a_on : Nat) (a_has : Nat) (x_members : Int32) (x_basin : Int32) (x_minute : Int32) (x_leeches : Int32) (x_on : Nat → Int32) (r_ret : Int32) (pc : Nat) (st : List Value) (loc : List (Nat × Value)) : Prop :=
  ∀ (H : Heap) (locs : List Loc) (ls : Array Slot), va_P D vwCl (wX3_leechesOn c a_this a_knows a_kind a_on a_has x_members x_basin x_minute x_leeches x_on) H → va_D A (wX3_leechesOn c a_this a_knows a_kind a_on a_has x_members x_basin x_minute x_leeches x_on) → va_S A s.heap H locs → lv_has ls 4 loc → W p l e ({ frames := 0, cells := 0, slots := 0, locals := 0 } : Room) s m args below meth cd H locs 0 0 (MQ below (xQi D (xT c) A r_ret (wX3_leechesOn c a_this a_knows a_kind a_on a_has x_members x_basin x_minute x_leeches x_on)) args s 0 0 A) (F0 m pc ls st)
theorem lkX3_leechesOn_f18 : Cond.fieldLink RX3 18 "LeechClub$Room" "on" "[I" ∈ wsX3_leechesOn := by decide +kernel
theorem lkX3_leechesOn_f28 : Cond.fieldLink RX3 28 "LeechClub$Room" "leeches" "I" ∈ wsX3_leechesOn := by decide +kernel
theorem inX3_leechesOn_X3 : ∀ w ∈ wsX30, w ∈ wsX3_leechesOn := by decide +kernel
set_option maxHeartbeats 4000000 in
set_option maxRecDepth 100000 in
theorem kX3_leechesOn_28 {p : Program} {l : Launch} {e : Env} {s : State} {m : MethodId} {args : Array Value} {below : List Frame} {meth : Method} {cd : Code} {D : va_G} {c : Nat → ClassId} {A : Nat → Prop} (E0 : xE p s m args meth cd D (xT c) A RX3 cX3_leechesOn 4 (some .int) wsX3_leechesOn) (a_this : Nat) (a_knows : Nat) (a_kind : Nat) (a_on : Nat) (a_has : Nat) (x_members : Int32) (x_basin : Int32) (x_minute : Int32) (x_leeches : Int32) (x_on : Nat → Int32) (n : Nat) (r_ret : Int32) (r_4 : Int32 → Int32 → Int32 → Option (Int32)) (h_4 : ∀ (v1 : Int32) (v2 : Int32) (v3 : Int32), r_4 v1 v2 v3 = some (r_ret) → GX3_leechesOn p l e s m args below meth cd D c A a_this a_knows a_kind a_on a_has x_members x_basin x_minute x_leeches x_on r_ret 4 [] [(0, .ref a_this), (1, .int v1), (2, .int v2), (3, .int v3)]) (v1 : Int32) (v2 : Int32) (v3 : Int32) (hr : fX3_leechesOn_28 n r_4 x_leeches x_on v1 v2 v3 = some (r_ret)) : GX3_leechesOn p l e s m args below meth cd D c A a_this a_knows a_kind a_on a_has x_members x_basin x_minute x_leeches x_on r_ret 28 [] [(0, .ref a_this), (1, .int v1), (2, .int v2), (3, .int v3)] := by
  have E1 := E0
  obtain ⟨hx, hb, hml, hret, hown, hts, hlocks, hA, hK⟩ := E1
  intro H locs ls hP hD hS hl
  unfold fX3_leechesOn_28 at hr
  refine lv_iinc (v := v3 + 1) (lv' := [(3, .int (v3 + 1)), (0, .ref a_this), (1, .int v1), (2, .int v2)]) hx hb dX3_leechesOn_28 hl (k := 3) rfl rfl (by decide) rfl (fun ls hl => ?_)
  refine lv_goto (tgt := 4) hx hb dX3_leechesOn_31 (by decide) ?_
  exact h_4 v1 v2 (v3 + 1) hr H locs ls hP hD hS (lv_sub hl [1, 2, 3, 0] rfl)
set_option maxHeartbeats 4000000 in
set_option maxRecDepth 100000 in
theorem kX3_leechesOn_4 {p : Program} {l : Launch} {e : Env} {s : State} {m : MethodId} {args : Array Value} {below : List Frame} {meth : Method} {cd : Code} {D : va_G} {c : Nat → ClassId} {A : Nat → Prop} (E0 : xE p s m args meth cd D (xT c) A RX3 cX3_leechesOn 4 (some .int) wsX3_leechesOn) (a_this : Nat) (a_knows : Nat) (a_kind : Nat) (a_on : Nat) (a_has : Nat) (x_members : Int32) (x_basin : Int32) (x_minute : Int32) (x_leeches : Int32) (x_on : Nat → Int32) (n : Nat) (r_ret : Int32) : ∀ (k : Nat) (v1 : Int32) (v2 : Int32) (v3 : Int32), fX3_leechesOn_4 n x_leeches x_on k v1 v2 v3 = some (r_ret) → GX3_leechesOn p l e s m args below meth cd D c A a_this a_knows a_kind a_on a_has x_members x_basin x_minute x_leeches x_on r_ret 4 [] [(0, .ref a_this), (1, .int v1), (2, .int v2), (3, .int v3)] := by
  have E1 := E0
  obtain ⟨hx, hb, hml, hret, hown, hts, hlocks, hA, hK⟩ := E1
  intro k
  induction k with
  | zero => intro v1 v2 v3 hr; cases hr
  | succ k h_4 =>
    intro v1 v2 v3 hr H locs ls hP hD hS hl
    unfold fX3_leechesOn_4 at hr
    refine lv_iload_n hx hb dX3_leechesOn_4 rfl (lv_at hl 3 rfl) ?_
    refine lv_aload_n hx hb dX3_leechesOn_5 rfl (lv_at hl 0 rfl) ?_
    refine va_get (D := D) (ci := 3) (v := .int x_leeches) (C := RX3) (T := TX3) (N := 8) hx hb hts inX3_leechesOn_X3 hown hK hP 0 rfl rfl 1 (by decide) (hts _ lkX3_leechesOn_f28) (fun _ h9 => h9) rfl dX3_leechesOn_6 ?_
    refine lv_icmp_ge (tgt := 34) hx hb dX3_leechesOn_9 (by decide) (fun c_1 => ?_) (fun c_1 => ?_)
    · have hr := x_ift hr c_1
      refine lv_iload_n hx hb dX3_leechesOn_34 rfl (lv_at hl 2 rfl) ?_
      have e0 := x_some hr
      subst e0
      exact x_reti hx hb hret hlocks hP hD hK hS dX3_leechesOn_35
    · have hr := x_iff hr c_1
      refine lv_aload_n hx hb dX3_leechesOn_12 rfl (lv_at hl 0 rfl) ?_
      refine va_get (D := D) (ci := 3) (v := .ref a_on) (C := RX3) (T := TX3) (N := 8) hx hb hts inX3_leechesOn_X3 hown hK hP 0 rfl rfl 6 (by decide) (hts _ lkX3_leechesOn_f18) (fun _ h9 => h9) rfl dX3_leechesOn_13 ?_
      refine lv_iload_n hx hb dX3_leechesOn_16 rfl (lv_at hl 3 rfl) ?_
      obtain ⟨b_2, hr⟩ := x_chk hr
      refine va_iald hx hb hK hP 1 0 rfl rfl b_2 dX3_leechesOn_17 ?_
      refine lv_iload_n hx hb dX3_leechesOn_18 rfl (lv_at hl 1 rfl) ?_
      refine lv_icmp_ne (tgt := 28) hx hb dX3_leechesOn_19 (by decide) (fun c_3 => ?_) (fun c_3 => ?_)
      · have hr := x_iff hr c_3
        exact kX3_leechesOn_28 E0 a_this a_knows a_kind a_on a_has x_members x_basin x_minute x_leeches x_on n r_ret (fX3_leechesOn_4 n x_leeches x_on k) h_4 v1 v2 v3 hr H locs ls hP hD hS (lv_sub hl [0, 1, 2, 3] rfl)
      · have hr := x_ift hr c_3
        refine lv_iload_n hx hb dX3_leechesOn_22 rfl (lv_at hl 2 rfl) ?_
        refine lv_iconst (v := 1) hx hb dX3_leechesOn_23 (by decide) ?_
        refine lv_iload_n hx hb dX3_leechesOn_24 rfl (lv_at hl 3 rfl) ?_
        refine lv_ishl hx hb dX3_leechesOn_25 ?_
        refine lv_ior hx hb dX3_leechesOn_26 ?_
        refine lv_istore_n (lv' := [(2, .int (v2 ||| (1 <<< (v3 &&& 31)))), (0, .ref a_this), (1, .int v1), (3, .int v3)]) hx hb dX3_leechesOn_27 rfl hl (by decide) rfl (fun ls hl => ?_)
        exact kX3_leechesOn_28 E0 a_this a_knows a_kind a_on a_has x_members x_basin x_minute x_leeches x_on n r_ret (fX3_leechesOn_4 n x_leeches x_on k) h_4 v1 (v2 ||| (1 <<< (v3 &&& 31))) v3 hr H locs ls hP hD hS (lv_sub hl [1, 2, 0, 3] rfl)
set_option maxHeartbeats 4000000 in
set_option maxRecDepth 100000 in
theorem kX3_leechesOn_0 {p : Program} {l : Launch} {e : Env} {s : State} {m : MethodId} {args : Array Value} {below : List Frame} {meth : Method} {cd : Code} {D : va_G} {c : Nat → ClassId} {A : Nat → Prop} (E0 : xE p s m args meth cd D (xT c) A RX3 cX3_leechesOn 4 (some .int) wsX3_leechesOn) (a_this : Nat) (a_knows : Nat) (a_kind : Nat) (a_on : Nat) (a_has : Nat) (x_members : Int32) (x_basin : Int32) (x_minute : Int32) (x_leeches : Int32) (x_on : Nat → Int32) (n : Nat) (r_ret : Int32) (v1 : Int32) (hr : fX3_leechesOn n x_leeches x_on v1 = some (r_ret)) : GX3_leechesOn p l e s m args below meth cd D c A a_this a_knows a_kind a_on a_has x_members x_basin x_minute x_leeches x_on r_ret 0 [] [(0, .ref a_this), (1, .int v1)] := by
  have E1 := E0
  obtain ⟨hx, hb, hml, hret, hown, hts, hlocks, hA, hK⟩ := E1
  intro H locs ls hP hD hS hl
  unfold fX3_leechesOn at hr
  refine lv_iconst (v := 0) hx hb dX3_leechesOn_0 (by decide) ?_
  refine lv_istore_n (lv' := [(2, .int 0), (0, .ref a_this), (1, .int v1)]) hx hb dX3_leechesOn_1 rfl hl (by decide) rfl (fun ls hl => ?_)
  refine lv_iconst (v := 0) hx hb dX3_leechesOn_2 (by decide) ?_
  refine lv_istore_n (lv' := [(3, .int 0), (2, .int 0), (0, .ref a_this), (1, .int v1)]) hx hb dX3_leechesOn_3 rfl hl (by decide) rfl (fun ls hl => ?_)
  exact kX3_leechesOn_4 E0 a_this a_knows a_kind a_on a_has x_members x_basin x_minute x_leeches x_on n r_ret n v1 0 0 hr H locs ls hP hD hS (lv_sub hl [2, 3, 1, 0] rfl)
set_option maxHeartbeats 4000000 in
set_option maxRecDepth 100000 in
theorem mX3_leechesOn (l : Launch) (D : va_G) (c : Nat → ClassId) (a_this : Nat) (a_knows : Nat) (a_kind : Nat) (a_on : Nat) (a_has : Nat) (sz : Nat) (x_members : Int32) (x_basin : Int32) (x_minute : Int32) (x_leeches : Int32) (x_on : Nat → Int32) (v1 : Int32) (n : Nat) (r_ret : Int32) (h : fX3_leechesOn n x_leeches x_on v1 = some (r_ret)) : Met l yX3_leechesOn wsX3_leechesOn ({ frames := 0, cells := 0, slots := 0, locals := 0 } : Room) (xPc D (xT c) sz [.ref a_this, .int v1] (wX3_leechesOn c a_this a_knows a_kind a_on a_has x_members x_basin x_minute x_leeches x_on) (fun _ => True)) (xQi D (xT c) (va_A (wX3_leechesOn c a_this a_knows a_kind a_on a_has x_members x_basin x_minute x_leeches x_on) sz) r_ret (wX3_leechesOn c a_this a_knows a_kind a_on a_has x_members x_basin x_minute x_leeches x_on)) 0 0 (va_A (wX3_leechesOn c a_this a_knows a_kind a_on a_has x_members x_basin x_minute x_leeches x_on) sz) := by
  refine Met.ofW (cc := cX3_leechesOn) (maxL := 4) (ret := (some .int)) (by decide) rfl ?_
  intro p e s m args below meth cd s₁ B hml hv
  obtain ⟨rfl, hsz, hP, hK, hD0, hV⟩ := hv
  subst hsz
  have hl := lv_entry [.ref a_this, .int v1] (n := 4) (Nat.le_of_ble_eq_true rfl)
  rw [lg_entry_eq]
  exact kX3_leechesOn_0 (A := va_A (wX3_leechesOn c a_this a_knows a_kind a_on a_has x_members x_basin x_minute x_leeches x_on) s.heap.size) ⟨B.exec, B.bytes, hml, B.returns, findClass_of_methodNamed B.named, atoms_spec (ws := wsX3_leechesOn) B.pre, B.notSynchronized, fun q h => Or.inr h, hK⟩ a_this a_knows a_kind a_on a_has x_members x_basin x_minute x_leeches x_on n r_ret v1 h s.heap [] _ hP hD0.self va_S.rf hl

abbrev wX2_begin (c : Nat → ClassId) (a_this : Nat) (a_p0 : Nat) (a_p0_knows : Nat) (a_p0_kind : Nat) (a_p0_on : Nat) (a_p0_has : Nat) (a_after : Nat) (a_puts : Nat) (a_choice : Nat) (a_best : Nat) (x_p0_basin : Int32) (x_p0_minute : Int32) (x_p0_members : Int32) (x_p0_leeches : Int32) (x_p0_on : Nat → Int32) (x_members : Int32) (x_leeches : Int32) (x_off : Int32) (x_limit : Int32) (x_most : Int32) (x_puts : Nat → Int32) (x_choice : Nat → Int32) (x_best : Nat → Int32) : va_W := [(a_p0, .inr (3, [.int x_p0_members, .int x_p0_leeches, .int x_p0_basin, .int x_p0_minute, .ref a_p0_knows, .ref a_p0_kind, .ref a_p0_on, .ref a_p0_has])), (a_this, .inr (2, [.ref a_after, .ref a_puts, .ref a_choice, .ref a_best, .int x_most, .int x_members, .int x_leeches, .int x_off, .int x_limit])), (a_p0_on, .inl (c 0, 5, .inl x_p0_on)), (a_puts, .inl (c 0, 4, .inl x_puts)), (a_choice, .inl (c 0, 5, .inl x_choice)), (a_best, .inl (c 0, 5, .inl x_best))]
def GX2_begin (p : Program) (l : Launch) (e : Env) (s : State) (m : MethodId) (args : Array Value) (below : List Frame) (meth : Method) (cd : Code) (D : va_G) (c : Nat → ClassId) (A : Nat → Prop) (a_this : Nat) (a_p0 : Nat) (a_p0_knows : Nat) (a_p0_kind : Nat) (a_p0_on : Nat) (a_p0_has : Nat) (a_after : Nat) (a_puts : Nat) (a_choice : Nat) (a_best : Nat) (x_p0_basin : Int32) (x_p0_minute : Int32) (x_p0_members : Int32) (x_p0_leeches : Int32) (x_p0_on : Nat → Int32) (rm_members : Int32) (rm_leeches : Int32) (rm_off : Int32) (rm_limit : Int32) (rm_most : Int32) (rm_puts : Nat → Int32) (rm_choice : Nat → Int32) (rm_best : Nat → Int32) (pc : Nat) (st : List Value) (loc : List (Nat × Value)) (x_members : Int32) (x_leeches : Int32) (x_off : Int32) (x_limit : Int32) (x_most : Int32) (x_puts : Nat → Int32) (x_choice : Nat → Int32) (x_best : Nat → Int32) : Prop :=
  ∀ (H : Heap) (locs : List Loc) (ls : Array Slot), va_P D vwCl (wX2_begin c a_this a_p0 a_p0_knows a_p0_kind a_p0_on a_p0_has a_after a_puts a_choice a_best x_p0_basin x_p0_minute x_p0_members x_p0_leeches x_p0_on x_members x_leeches x_off x_limit x_most x_puts x_choice x_best) H → va_D A (wX2_begin c a_this a_p0 a_p0_knows a_p0_kind a_p0_on a_p0_has a_after a_puts a_choice a_best x_p0_basin x_p0_minute x_p0_members x_p0_leeches x_p0_on x_members x_leeches x_off x_limit x_most x_puts x_choice x_best) → va_S A s.heap H locs → lv_has ls 4 loc → W p l e ({ frames := 1, cells := 0, slots := 0, locals := 23 } : Room) s m args below meth cd H locs 0 0 (MQ below (xQv D (xT c) A (wX2_begin c a_this a_p0 a_p0_knows a_p0_kind a_p0_on a_p0_has a_after a_puts a_choice a_best x_p0_basin x_p0_minute x_p0_members x_p0_leeches x_p0_on rm_members rm_leeches rm_off rm_limit rm_most rm_puts rm_choice rm_best)) args s 0 0 A) (F0 m pc ls st)
theorem lkX2_begin_f16 : Cond.fieldLink RX2 16 "LeechClub$Plan" "puts" "[I" ∈ wsX2_begin := by decide +kernel
theorem lkX2_begin_f20 : Cond.fieldLink RX2 20 "LeechClub$Plan" "choice" "[I" ∈ wsX2_begin := by decide +kernel
theorem lkX2_begin_f23 : Cond.fieldLink RX2 23 "LeechClub$Plan" "best" "[I" ∈ wsX2_begin := by decide +kernel
theorem lkX2_begin_f26 : Cond.fieldLink RX2 26 "LeechClub$Room" "members" "I" ∈ wsX2_begin := by decide +kernel
theorem lkX2_begin_f32 : Cond.fieldLink RX2 32 "LeechClub$Plan" "members" "I" ∈ wsX2_begin := by decide +kernel
theorem lkX2_begin_f33 : Cond.fieldLink RX2 33 "LeechClub$Room" "leeches" "I" ∈ wsX2_begin := by decide +kernel
theorem lkX2_begin_f36 : Cond.fieldLink RX2 36 "LeechClub$Plan" "leeches" "I" ∈ wsX2_begin := by decide +kernel
theorem lkX2_begin_f41 : Cond.fieldLink RX2 41 "LeechClub$Plan" "off" "I" ∈ wsX2_begin := by decide +kernel
theorem lkX2_begin_f44 : Cond.fieldLink RX2 44 "LeechClub$Plan" "limit" "I" ∈ wsX2_begin := by decide +kernel
theorem lkX2_begin_f47 : Cond.fieldLink RX2 47 "LeechClub$Plan" "most" "I" ∈ wsX2_begin := by decide +kernel
theorem inX2_begin_X2 : ∀ w ∈ wsX20, w ∈ wsX2_begin := by decide +kernel
theorem inX2_begin_X3 : ∀ w ∈ wsX30, w ∈ wsX2_begin := by decide +kernel
set_option maxHeartbeats 4000000 in
set_option maxRecDepth 100000 in
theorem kX2_begin_57 {p : Program} {l : Launch} {e : Env} {s : State} {m : MethodId} {args : Array Value} {below : List Frame} {meth : Method} {cd : Code} {D : va_G} {c : Nat → ClassId} {A : Nat → Prop} (E0 : xE p s m args meth cd D (xT c) A RX2 cX2_begin 4 none wsX2_begin) (a_this : Nat) (a_p0 : Nat) (a_p0_knows : Nat) (a_p0_kind : Nat) (a_p0_on : Nat) (a_p0_has : Nat) (a_after : Nat) (a_puts : Nat) (a_choice : Nat) (a_best : Nat) (x_p0_basin : Int32) (x_p0_minute : Int32) (x_p0_members : Int32) (x_p0_leeches : Int32) (x_p0_on : Nat → Int32) (n : Nat) (rm_members : Int32) (rm_leeches : Int32) (rm_off : Int32) (rm_limit : Int32) (rm_most : Int32) (rm_puts : Nat → Int32) (rm_choice : Nat → Int32) (rm_best : Nat → Int32) : ∀ (k : Nat) (x_members : Int32) (x_leeches : Int32) (x_off : Int32) (x_limit : Int32) (x_most : Int32) (x_puts : Nat → Int32) (x_choice : Nat → Int32) (x_best : Nat → Int32) (v3 : Int32), fX2_begin_57 n x_p0_members x_p0_leeches x_p0_on k x_members x_leeches x_off x_limit x_most x_puts x_choice x_best v3 = some (rm_members, rm_leeches, rm_off, rm_limit, rm_most, rm_puts, rm_choice, rm_best) → GX2_begin p l e s m args below meth cd D c A a_this a_p0 a_p0_knows a_p0_kind a_p0_on a_p0_has a_after a_puts a_choice a_best x_p0_basin x_p0_minute x_p0_members x_p0_leeches x_p0_on rm_members rm_leeches rm_off rm_limit rm_most rm_puts rm_choice rm_best 57 [] [(0, .ref a_this), (3, .int v3)] x_members x_leeches x_off x_limit x_most x_puts x_choice x_best := by
  have E1 := E0
  obtain ⟨hx, hb, hml, hret, hown, hts, hlocks, hA, hK⟩ := E1
  intro k
  induction k with
  | zero => intro x_members x_leeches x_off x_limit x_most x_puts x_choice x_best v3 hr; cases hr
  | succ k h_57 =>
    intro x_members x_leeches x_off x_limit x_most x_puts x_choice x_best v3 hr H locs ls hP hD hS hl
    unfold fX2_begin_57 at hr
    refine lv_iload_n hx hb dX2_begin_57 rfl (lv_at hl 1 rfl) ?_
    refine lv_iconst (v := 5) hx hb dX2_begin_58 (by decide) ?_
    refine lv_icmp_ge (tgt := 82) hx hb dX2_begin_59 (by decide) (fun c_1 => ?_) (fun c_1 => ?_)
    · have hr := x_ift hr c_1
      have g0 := x_some hr
      have e0 := x_p1 g0
      have g1 := x_p2 g0
      have e1 := x_p1 g1
      have g2 := x_p2 g1
      have e2 := x_p1 g2
      have g3 := x_p2 g2
      have e3 := x_p1 g3
      have g4 := x_p2 g3
      have e4 := x_p1 g4
      have g5 := x_p2 g4
      have e5 := x_p1 g5
      have g6 := x_p2 g5
      have e6 := x_p1 g6
      have e7 := x_p2 g6
      subst e0
      subst e1
      subst e2
      subst e3
      subst e4
      subst e5
      subst e6
      subst e7
      exact x_retv hx hb hret hlocks hP hD hK hS dX2_begin_82
    · have hr := x_iff hr c_1
      refine lv_aload_n hx hb dX2_begin_62 rfl (lv_at hl 0 rfl) ?_
      refine va_get (D := D) (ci := 2) (v := .ref a_choice) (C := RX2) (T := TX2) (N := 9) hx hb hts inX2_begin_X2 hown hK hP 1 rfl rfl 2 (by decide) (hts _ lkX2_begin_f20) (fun _ h9 => h9) rfl dX2_begin_63 ?_
      refine lv_iload_n hx hb dX2_begin_66 rfl (lv_at hl 1 rfl) ?_
      refine lv_iconst (v := (-1)) hx hb dX2_begin_67 (by decide) ?_
      obtain ⟨b_2, hr⟩ := x_chk hr
      refine va_iast hx hb hK hP hD hS 4 0 rfl rfl b_2 dX2_begin_68 (fun H locs hP hD hS => ?_)
      have hP : va_P D vwCl [(a_p0, .inr (3, [.int x_p0_members, .int x_p0_leeches, .int x_p0_basin, .int x_p0_minute, .ref a_p0_knows, .ref a_p0_kind, .ref a_p0_on, .ref a_p0_has])), (a_this, .inr (2, [.ref a_after, .ref a_puts, .ref a_choice, .ref a_best, .int x_most, .int x_members, .int x_leeches, .int x_off, .int x_limit])), (a_p0_on, .inl (c 0, 5, .inl x_p0_on)), (a_puts, .inl (c 0, 4, .inl x_puts)), (a_choice, .inl (c 0, 5, .inl (upd x_choice v3.toNatClampNeg (-1)))), (a_best, .inl (c 0, 5, .inl x_best))] H := hP
      have hD : va_D A [(a_p0, .inr (3, [.int x_p0_members, .int x_p0_leeches, .int x_p0_basin, .int x_p0_minute, .ref a_p0_knows, .ref a_p0_kind, .ref a_p0_on, .ref a_p0_has])), (a_this, .inr (2, [.ref a_after, .ref a_puts, .ref a_choice, .ref a_best, .int x_most, .int x_members, .int x_leeches, .int x_off, .int x_limit])), (a_p0_on, .inl (c 0, 5, .inl x_p0_on)), (a_puts, .inl (c 0, 4, .inl x_puts)), (a_choice, .inl (c 0, 5, .inl (upd x_choice v3.toNatClampNeg (-1)))), (a_best, .inl (c 0, 5, .inl x_best))] := hD
      refine lv_aload_n hx hb dX2_begin_69 rfl (lv_at hl 0 rfl) ?_
      refine va_get (D := D) (ci := 2) (v := .ref a_best) (C := RX2) (T := TX2) (N := 9) hx hb hts inX2_begin_X2 hown hK hP 1 rfl rfl 3 (by decide) (hts _ lkX2_begin_f23) (fun _ h9 => h9) rfl dX2_begin_70 ?_
      refine lv_iload_n hx hb dX2_begin_73 rfl (lv_at hl 1 rfl) ?_
      refine lv_iconst (v := (-1)) hx hb dX2_begin_74 (by decide) ?_
      obtain ⟨b_3, hr⟩ := x_chk hr
      refine va_iast hx hb hK hP hD hS 5 0 rfl rfl b_3 dX2_begin_75 (fun H locs hP hD hS => ?_)
      have hP : va_P D vwCl [(a_p0, .inr (3, [.int x_p0_members, .int x_p0_leeches, .int x_p0_basin, .int x_p0_minute, .ref a_p0_knows, .ref a_p0_kind, .ref a_p0_on, .ref a_p0_has])), (a_this, .inr (2, [.ref a_after, .ref a_puts, .ref a_choice, .ref a_best, .int x_most, .int x_members, .int x_leeches, .int x_off, .int x_limit])), (a_p0_on, .inl (c 0, 5, .inl x_p0_on)), (a_puts, .inl (c 0, 4, .inl x_puts)), (a_choice, .inl (c 0, 5, .inl (upd x_choice v3.toNatClampNeg (-1)))), (a_best, .inl (c 0, 5, .inl (upd x_best v3.toNatClampNeg (-1))))] H := hP
      have hD : va_D A [(a_p0, .inr (3, [.int x_p0_members, .int x_p0_leeches, .int x_p0_basin, .int x_p0_minute, .ref a_p0_knows, .ref a_p0_kind, .ref a_p0_on, .ref a_p0_has])), (a_this, .inr (2, [.ref a_after, .ref a_puts, .ref a_choice, .ref a_best, .int x_most, .int x_members, .int x_leeches, .int x_off, .int x_limit])), (a_p0_on, .inl (c 0, 5, .inl x_p0_on)), (a_puts, .inl (c 0, 4, .inl x_puts)), (a_choice, .inl (c 0, 5, .inl (upd x_choice v3.toNatClampNeg (-1)))), (a_best, .inl (c 0, 5, .inl (upd x_best v3.toNatClampNeg (-1))))] := hD
      refine lv_iinc (v := v3 + 1) (lv' := [(3, .int (v3 + 1)), (0, .ref a_this)]) hx hb dX2_begin_76 hl (k := 1) rfl rfl (by decide) rfl (fun ls hl => ?_)
      refine lv_goto (tgt := 57) hx hb dX2_begin_79 (by decide) ?_
      exact h_57 x_members x_leeches x_off x_limit x_most x_puts (upd x_choice v3.toNatClampNeg (-1)) (upd x_best v3.toNatClampNeg (-1)) (v3 + 1) hr H locs ls hP hD hS (lv_sub hl [1, 0] rfl)
set_option maxHeartbeats 4000000 in
set_option maxRecDepth 100000 in
theorem kX2_begin_37 {p : Program} {l : Launch} {e : Env} {s : State} {m : MethodId} {args : Array Value} {below : List Frame} {meth : Method} {cd : Code} {D : va_G} {c : Nat → ClassId} {A : Nat → Prop} (E0 : xE p s m args meth cd D (xT c) A RX2 cX2_begin 4 none wsX2_begin) (a_this : Nat) (a_p0 : Nat) (a_p0_knows : Nat) (a_p0_kind : Nat) (a_p0_on : Nat) (a_p0_has : Nat) (a_after : Nat) (a_puts : Nat) (a_choice : Nat) (a_best : Nat) (x_p0_basin : Int32) (x_p0_minute : Int32) (x_p0_members : Int32) (x_p0_leeches : Int32) (x_p0_on : Nat → Int32) (n : Nat) (rm_members : Int32) (rm_leeches : Int32) (rm_off : Int32) (rm_limit : Int32) (rm_most : Int32) (rm_puts : Nat → Int32) (rm_choice : Nat → Int32) (rm_best : Nat → Int32) : ∀ (k : Nat) (x_members : Int32) (x_leeches : Int32) (x_off : Int32) (x_limit : Int32) (x_most : Int32) (x_puts : Nat → Int32) (x_choice : Nat → Int32) (x_best : Nat → Int32) (v3 : Int32), fX2_begin_37 n x_p0_members x_p0_leeches x_p0_on k x_members x_leeches x_off x_limit x_most x_puts x_choice x_best v3 = some (rm_members, rm_leeches, rm_off, rm_limit, rm_most, rm_puts, rm_choice, rm_best) → GX2_begin p l e s m args below meth cd D c A a_this a_p0 a_p0_knows a_p0_kind a_p0_on a_p0_has a_after a_puts a_choice a_best x_p0_basin x_p0_minute x_p0_members x_p0_leeches x_p0_on rm_members rm_leeches rm_off rm_limit rm_most rm_puts rm_choice rm_best 37 [] [(0, .ref a_this), (3, .int v3)] x_members x_leeches x_off x_limit x_most x_puts x_choice x_best := by
  have E1 := E0
  obtain ⟨hx, hb, hml, hret, hown, hts, hlocks, hA, hK⟩ := E1
  intro k
  induction k with
  | zero => intro x_members x_leeches x_off x_limit x_most x_puts x_choice x_best v3 hr; cases hr
  | succ k h_37 =>
    intro x_members x_leeches x_off x_limit x_most x_puts x_choice x_best v3 hr H locs ls hP hD hS hl
    unfold fX2_begin_37 at hr
    refine lv_iload_n hx hb dX2_begin_37 rfl (lv_at hl 1 rfl) ?_
    refine lv_iconst (v := 4) hx hb dX2_begin_38 (by decide) ?_
    refine lv_icmp_ge (tgt := 55) hx hb dX2_begin_39 (by decide) (fun c_1 => ?_) (fun c_1 => ?_)
    · have hr := x_ift hr c_1
      refine lv_iconst (v := 0) hx hb dX2_begin_55 (by decide) ?_
      refine lv_istore_n (lv' := [(3, .int 0), (0, .ref a_this)]) hx hb dX2_begin_56 rfl hl (by decide) rfl (fun ls hl => ?_)
      exact kX2_begin_57 E0 a_this a_p0 a_p0_knows a_p0_kind a_p0_on a_p0_has a_after a_puts a_choice a_best x_p0_basin x_p0_minute x_p0_members x_p0_leeches x_p0_on n rm_members rm_leeches rm_off rm_limit rm_most rm_puts rm_choice rm_best n x_members x_leeches x_off x_limit x_most x_puts x_choice x_best 0 hr H locs ls hP hD hS (lv_sub hl [1, 0] rfl)
    · have hr := x_iff hr c_1
      refine lv_aload_n hx hb dX2_begin_42 rfl (lv_at hl 0 rfl) ?_
      refine va_get (D := D) (ci := 2) (v := .ref a_puts) (C := RX2) (T := TX2) (N := 9) hx hb hts inX2_begin_X2 hown hK hP 1 rfl rfl 1 (by decide) (hts _ lkX2_begin_f16) (fun _ h9 => h9) rfl dX2_begin_43 ?_
      refine lv_iload_n hx hb dX2_begin_46 rfl (lv_at hl 1 rfl) ?_
      refine lv_iconst (v := 0) hx hb dX2_begin_47 (by decide) ?_
      obtain ⟨b_2, hr⟩ := x_chk hr
      refine va_iast hx hb hK hP hD hS 3 0 rfl rfl b_2 dX2_begin_48 (fun H locs hP hD hS => ?_)
      have hP : va_P D vwCl [(a_p0, .inr (3, [.int x_p0_members, .int x_p0_leeches, .int x_p0_basin, .int x_p0_minute, .ref a_p0_knows, .ref a_p0_kind, .ref a_p0_on, .ref a_p0_has])), (a_this, .inr (2, [.ref a_after, .ref a_puts, .ref a_choice, .ref a_best, .int x_most, .int x_members, .int x_leeches, .int x_off, .int x_limit])), (a_p0_on, .inl (c 0, 5, .inl x_p0_on)), (a_puts, .inl (c 0, 4, .inl (upd x_puts v3.toNatClampNeg 0))), (a_choice, .inl (c 0, 5, .inl x_choice)), (a_best, .inl (c 0, 5, .inl x_best))] H := hP
      have hD : va_D A [(a_p0, .inr (3, [.int x_p0_members, .int x_p0_leeches, .int x_p0_basin, .int x_p0_minute, .ref a_p0_knows, .ref a_p0_kind, .ref a_p0_on, .ref a_p0_has])), (a_this, .inr (2, [.ref a_after, .ref a_puts, .ref a_choice, .ref a_best, .int x_most, .int x_members, .int x_leeches, .int x_off, .int x_limit])), (a_p0_on, .inl (c 0, 5, .inl x_p0_on)), (a_puts, .inl (c 0, 4, .inl (upd x_puts v3.toNatClampNeg 0))), (a_choice, .inl (c 0, 5, .inl x_choice)), (a_best, .inl (c 0, 5, .inl x_best))] := hD
      refine lv_iinc (v := v3 + 1) (lv' := [(3, .int (v3 + 1)), (0, .ref a_this)]) hx hb dX2_begin_49 hl (k := 1) rfl rfl (by decide) rfl (fun ls hl => ?_)
      refine lv_goto (tgt := 37) hx hb dX2_begin_52 (by decide) ?_
      exact h_37 x_members x_leeches x_off x_limit x_most (upd x_puts v3.toNatClampNeg 0) x_choice x_best (v3 + 1) hr H locs ls hP hD hS (lv_sub hl [1, 0] rfl)
set_option maxHeartbeats 4000000 in
set_option maxRecDepth 100000 in
theorem kX2_begin_0 {p : Program} {l : Launch} {e : Env} {s : State} {m : MethodId} {args : Array Value} {below : List Frame} {meth : Method} {cd : Code} {D : va_G} {c : Nat → ClassId} {A : Nat → Prop} (E0 : xE p s m args meth cd D (xT c) A RX2 cX2_begin 4 none wsX2_begin) (a_this : Nat) (a_p0 : Nat) (a_p0_knows : Nat) (a_p0_kind : Nat) (a_p0_on : Nat) (a_p0_has : Nat) (a_after : Nat) (a_puts : Nat) (a_choice : Nat) (a_best : Nat) (x_p0_basin : Int32) (x_p0_minute : Int32) (x_p0_members : Int32) (x_p0_leeches : Int32) (x_p0_on : Nat → Int32) (n : Nat) (rm_members : Int32) (rm_leeches : Int32) (rm_off : Int32) (rm_limit : Int32) (rm_most : Int32) (rm_puts : Nat → Int32) (rm_choice : Nat → Int32) (rm_best : Nat → Int32) (x_members : Int32) (x_leeches : Int32) (x_off : Int32) (x_limit : Int32) (x_most : Int32) (x_puts : Nat → Int32) (x_choice : Nat → Int32) (x_best : Nat → Int32) (v2 : Int32) (hr : fX2_begin n x_p0_members x_p0_leeches x_p0_on x_members x_leeches x_off x_limit x_most x_puts x_choice x_best v2 = some (rm_members, rm_leeches, rm_off, rm_limit, rm_most, rm_puts, rm_choice, rm_best)) : GX2_begin p l e s m args below meth cd D c A a_this a_p0 a_p0_knows a_p0_kind a_p0_on a_p0_has a_after a_puts a_choice a_best x_p0_basin x_p0_minute x_p0_members x_p0_leeches x_p0_on rm_members rm_leeches rm_off rm_limit rm_most rm_puts rm_choice rm_best 0 [] [(0, .ref a_this), (1, .ref a_p0), (2, .int v2)] x_members x_leeches x_off x_limit x_most x_puts x_choice x_best := by
  have E1 := E0
  obtain ⟨hx, hb, hml, hret, hown, hts, hlocks, hA, hK⟩ := E1
  intro H locs ls hP hD hS hl
  unfold fX2_begin at hr
  refine lv_aload_n hx hb dX2_begin_0 rfl (lv_at hl 0 rfl) ?_
  refine lv_aload_n hx hb dX2_begin_1 rfl (lv_at hl 1 rfl) ?_
  refine va_get (D := D) (ci := 3) (v := .int x_p0_members) (C := RX3) (T := TX3) (N := 8) hx hb hts inX2_begin_X3 hown hK hP 0 rfl rfl 0 (by decide) (hts _ lkX2_begin_f26) (fun _ h9 => h9) rfl dX2_begin_2 ?_
  refine va_put (D := D) (ci := 2) (v := .int x_p0_members) (ty := .int) (C := RX2) (T := TX2) (N := 9) hx hb hts inX2_begin_X2 tyX2 tyX2_ok nmX2 hown hK hP hD hS 1 rfl rfl 5 (by decide) (hts _ lkX2_begin_f32) (fun _ h9 => h9) rfl (by decide +kernel) rfl rfl (Nat.le_of_ble_eq_true rfl) dX2_begin_5 (fun H locs hP hD hS => ?_)
  have hP : va_P D vwCl [(a_p0, .inr (3, [.int x_p0_members, .int x_p0_leeches, .int x_p0_basin, .int x_p0_minute, .ref a_p0_knows, .ref a_p0_kind, .ref a_p0_on, .ref a_p0_has])), (a_this, .inr (2, [.ref a_after, .ref a_puts, .ref a_choice, .ref a_best, .int x_most, .int x_p0_members, .int x_leeches, .int x_off, .int x_limit])), (a_p0_on, .inl (c 0, 5, .inl x_p0_on)), (a_puts, .inl (c 0, 4, .inl x_puts)), (a_choice, .inl (c 0, 5, .inl x_choice)), (a_best, .inl (c 0, 5, .inl x_best))] H := hP
  have hD : va_D A [(a_p0, .inr (3, [.int x_p0_members, .int x_p0_leeches, .int x_p0_basin, .int x_p0_minute, .ref a_p0_knows, .ref a_p0_kind, .ref a_p0_on, .ref a_p0_has])), (a_this, .inr (2, [.ref a_after, .ref a_puts, .ref a_choice, .ref a_best, .int x_most, .int x_p0_members, .int x_leeches, .int x_off, .int x_limit])), (a_p0_on, .inl (c 0, 5, .inl x_p0_on)), (a_puts, .inl (c 0, 4, .inl x_puts)), (a_choice, .inl (c 0, 5, .inl x_choice)), (a_best, .inl (c 0, 5, .inl x_best))] := hD
  refine lv_aload_n hx hb dX2_begin_8 rfl (lv_at hl 0 rfl) ?_
  refine lv_aload_n hx hb dX2_begin_9 rfl (lv_at hl 1 rfl) ?_
  refine va_get (D := D) (ci := 3) (v := .int x_p0_leeches) (C := RX3) (T := TX3) (N := 8) hx hb hts inX2_begin_X3 hown hK hP 0 rfl rfl 1 (by decide) (hts _ lkX2_begin_f33) (fun _ h9 => h9) rfl dX2_begin_10 ?_
  refine va_put (D := D) (ci := 2) (v := .int x_p0_leeches) (ty := .int) (C := RX2) (T := TX2) (N := 9) hx hb hts inX2_begin_X2 tyX2 tyX2_ok nmX2 hown hK hP hD hS 1 rfl rfl 6 (by decide) (hts _ lkX2_begin_f36) (fun _ h9 => h9) rfl (by decide +kernel) rfl rfl (Nat.le_of_ble_eq_true rfl) dX2_begin_13 (fun H locs hP hD hS => ?_)
  have hP : va_P D vwCl [(a_p0, .inr (3, [.int x_p0_members, .int x_p0_leeches, .int x_p0_basin, .int x_p0_minute, .ref a_p0_knows, .ref a_p0_kind, .ref a_p0_on, .ref a_p0_has])), (a_this, .inr (2, [.ref a_after, .ref a_puts, .ref a_choice, .ref a_best, .int x_most, .int x_p0_members, .int x_p0_leeches, .int x_off, .int x_limit])), (a_p0_on, .inl (c 0, 5, .inl x_p0_on)), (a_puts, .inl (c 0, 4, .inl x_puts)), (a_choice, .inl (c 0, 5, .inl x_choice)), (a_best, .inl (c 0, 5, .inl x_best))] H := hP
  have hD : va_D A [(a_p0, .inr (3, [.int x_p0_members, .int x_p0_leeches, .int x_p0_basin, .int x_p0_minute, .ref a_p0_knows, .ref a_p0_kind, .ref a_p0_on, .ref a_p0_has])), (a_this, .inr (2, [.ref a_after, .ref a_puts, .ref a_choice, .ref a_best, .int x_most, .int x_p0_members, .int x_p0_leeches, .int x_off, .int x_limit])), (a_p0_on, .inl (c 0, 5, .inl x_p0_on)), (a_puts, .inl (c 0, 4, .inl x_puts)), (a_choice, .inl (c 0, 5, .inl x_choice)), (a_best, .inl (c 0, 5, .inl x_best))] := hD
  refine lv_aload_n hx hb dX2_begin_16 rfl (lv_at hl 0 rfl) ?_
  refine lv_aload_n hx hb dX2_begin_17 rfl (lv_at hl 1 rfl) ?_
  refine lv_iconst (v := (-1)) hx hb dX2_begin_18 (by decide) ?_
  obtain ⟨q1_0, hc1, hr⟩ := x_bind hr
  refine x_runi (wr := [(a_this, .inr (2, [.ref a_after, .ref a_puts, .ref a_choice, .ref a_best, .int x_most, .int x_p0_members, .int x_p0_leeches, .int x_off, .int x_limit])), (a_puts, .inl (c 0, 4, .inl x_puts)), (a_choice, .inl (c 0, 5, .inl x_choice)), (a_best, .inl (c 0, 5, .inl x_best))]) (wf := [(a_p0, .inr (3, [.int x_p0_members, .int x_p0_leeches, .int x_p0_basin, .int x_p0_minute, .ref a_p0_knows, .ref a_p0_kind, .ref a_p0_on, .ref a_p0_has])), (a_this, .inr (2, [.ref a_after, .ref a_puts, .ref a_choice, .ref a_best, .int x_most, .int x_p0_members, .int x_p0_leeches, .int x_off, .int x_limit])), (a_p0_on, .inl (c 0, 5, .inl x_p0_on)), (a_puts, .inl (c 0, 4, .inl x_puts)), (a_choice, .inl (c 0, 5, .inl x_choice)), (a_best, .inl (c 0, 5, .inl x_best))]) (x_goV (As := [.int (-1)]) (rest := [.ref a_this]) ⟨hx, hb, hml, hown, hts⟩ (mX3_leechesOn l D c a_p0 a_p0_knows a_p0_kind a_p0_on a_p0_has H.size x_p0_members x_p0_basin x_p0_minute x_p0_leeches x_p0_on (-1) n _ hc1) (cwV 1 hts gX2_begin_X3_leechesOn rfl rfl rfl (by decide +kernel) ⟨Nat.le_of_ble_eq_true rfl, Nat.le_of_ble_eq_true rfl⟩) xB_t hP hD hK [0, 2] rfl (by decide) (fun _ _ _ => trivial) 0 3 rfl rfl rfl rfl hl.1 rfl (Nat.le_of_ble_eq_true rfl) dX2_begin_19) hP hD hS hA [0, 2] [1, 3, 4, 5] [4, 0, 5, 1, 2, 3] rfl rfl rfl ⟨by decide, by decide, by decide⟩ (fun H locs hP hD hS => ?_)
  refine va_put (D := D) (ci := 2) (v := .int q1_0) (ty := .int) (C := RX2) (T := TX2) (N := 9) hx hb hts inX2_begin_X2 tyX2 tyX2_ok nmX2 hown hK hP hD hS 1 rfl rfl 7 (by decide) (hts _ lkX2_begin_f41) (fun _ h9 => h9) rfl (by decide +kernel) rfl rfl (Nat.le_of_ble_eq_true rfl) dX2_begin_22 (fun H locs hP hD hS => ?_)
  have hP : va_P D vwCl [(a_p0, .inr (3, [.int x_p0_members, .int x_p0_leeches, .int x_p0_basin, .int x_p0_minute, .ref a_p0_knows, .ref a_p0_kind, .ref a_p0_on, .ref a_p0_has])), (a_this, .inr (2, [.ref a_after, .ref a_puts, .ref a_choice, .ref a_best, .int x_most, .int x_p0_members, .int x_p0_leeches, .int q1_0, .int x_limit])), (a_p0_on, .inl (c 0, 5, .inl x_p0_on)), (a_puts, .inl (c 0, 4, .inl x_puts)), (a_choice, .inl (c 0, 5, .inl x_choice)), (a_best, .inl (c 0, 5, .inl x_best))] H := hP
  have hD : va_D A [(a_p0, .inr (3, [.int x_p0_members, .int x_p0_leeches, .int x_p0_basin, .int x_p0_minute, .ref a_p0_knows, .ref a_p0_kind, .ref a_p0_on, .ref a_p0_has])), (a_this, .inr (2, [.ref a_after, .ref a_puts, .ref a_choice, .ref a_best, .int x_most, .int x_p0_members, .int x_p0_leeches, .int q1_0, .int x_limit])), (a_p0_on, .inl (c 0, 5, .inl x_p0_on)), (a_puts, .inl (c 0, 4, .inl x_puts)), (a_choice, .inl (c 0, 5, .inl x_choice)), (a_best, .inl (c 0, 5, .inl x_best))] := hD
  refine lv_aload_n hx hb dX2_begin_25 rfl (lv_at hl 0 rfl) ?_
  refine lv_iload_n hx hb dX2_begin_26 rfl (lv_at hl 2 rfl) ?_
  refine va_put (D := D) (ci := 2) (v := .int v2) (ty := .int) (C := RX2) (T := TX2) (N := 9) hx hb hts inX2_begin_X2 tyX2 tyX2_ok nmX2 hown hK hP hD hS 1 rfl rfl 8 (by decide) (hts _ lkX2_begin_f44) (fun _ h9 => h9) rfl (by decide +kernel) rfl rfl (Nat.le_of_ble_eq_true rfl) dX2_begin_27 (fun H locs hP hD hS => ?_)
  have hP : va_P D vwCl [(a_p0, .inr (3, [.int x_p0_members, .int x_p0_leeches, .int x_p0_basin, .int x_p0_minute, .ref a_p0_knows, .ref a_p0_kind, .ref a_p0_on, .ref a_p0_has])), (a_this, .inr (2, [.ref a_after, .ref a_puts, .ref a_choice, .ref a_best, .int x_most, .int x_p0_members, .int x_p0_leeches, .int q1_0, .int v2])), (a_p0_on, .inl (c 0, 5, .inl x_p0_on)), (a_puts, .inl (c 0, 4, .inl x_puts)), (a_choice, .inl (c 0, 5, .inl x_choice)), (a_best, .inl (c 0, 5, .inl x_best))] H := hP
  have hD : va_D A [(a_p0, .inr (3, [.int x_p0_members, .int x_p0_leeches, .int x_p0_basin, .int x_p0_minute, .ref a_p0_knows, .ref a_p0_kind, .ref a_p0_on, .ref a_p0_has])), (a_this, .inr (2, [.ref a_after, .ref a_puts, .ref a_choice, .ref a_best, .int x_most, .int x_p0_members, .int x_p0_leeches, .int q1_0, .int v2])), (a_p0_on, .inl (c 0, 5, .inl x_p0_on)), (a_puts, .inl (c 0, 4, .inl x_puts)), (a_choice, .inl (c 0, 5, .inl x_choice)), (a_best, .inl (c 0, 5, .inl x_best))] := hD
  refine lv_aload_n hx hb dX2_begin_30 rfl (lv_at hl 0 rfl) ?_
  refine lv_iconst (v := (-1)) hx hb dX2_begin_31 (by decide) ?_
  refine va_put (D := D) (ci := 2) (v := .int (-1)) (ty := .int) (C := RX2) (T := TX2) (N := 9) hx hb hts inX2_begin_X2 tyX2 tyX2_ok nmX2 hown hK hP hD hS 1 rfl rfl 4 (by decide) (hts _ lkX2_begin_f47) (fun _ h9 => h9) rfl (by decide +kernel) rfl rfl (Nat.le_of_ble_eq_true rfl) dX2_begin_32 (fun H locs hP hD hS => ?_)
  have hP : va_P D vwCl [(a_p0, .inr (3, [.int x_p0_members, .int x_p0_leeches, .int x_p0_basin, .int x_p0_minute, .ref a_p0_knows, .ref a_p0_kind, .ref a_p0_on, .ref a_p0_has])), (a_this, .inr (2, [.ref a_after, .ref a_puts, .ref a_choice, .ref a_best, .int (-1), .int x_p0_members, .int x_p0_leeches, .int q1_0, .int v2])), (a_p0_on, .inl (c 0, 5, .inl x_p0_on)), (a_puts, .inl (c 0, 4, .inl x_puts)), (a_choice, .inl (c 0, 5, .inl x_choice)), (a_best, .inl (c 0, 5, .inl x_best))] H := hP
  have hD : va_D A [(a_p0, .inr (3, [.int x_p0_members, .int x_p0_leeches, .int x_p0_basin, .int x_p0_minute, .ref a_p0_knows, .ref a_p0_kind, .ref a_p0_on, .ref a_p0_has])), (a_this, .inr (2, [.ref a_after, .ref a_puts, .ref a_choice, .ref a_best, .int (-1), .int x_p0_members, .int x_p0_leeches, .int q1_0, .int v2])), (a_p0_on, .inl (c 0, 5, .inl x_p0_on)), (a_puts, .inl (c 0, 4, .inl x_puts)), (a_choice, .inl (c 0, 5, .inl x_choice)), (a_best, .inl (c 0, 5, .inl x_best))] := hD
  refine lv_iconst (v := 0) hx hb dX2_begin_35 (by decide) ?_
  refine lv_istore_n (lv' := [(3, .int 0), (0, .ref a_this), (1, .ref a_p0), (2, .int v2)]) hx hb dX2_begin_36 rfl hl (by decide) rfl (fun ls hl => ?_)
  exact kX2_begin_37 E0 a_this a_p0 a_p0_knows a_p0_kind a_p0_on a_p0_has a_after a_puts a_choice a_best x_p0_basin x_p0_minute x_p0_members x_p0_leeches x_p0_on n rm_members rm_leeches rm_off rm_limit rm_most rm_puts rm_choice rm_best n x_p0_members x_p0_leeches q1_0 v2 (-1) x_puts x_choice x_best 0 hr H locs ls hP hD hS (lv_sub hl [1, 0] rfl)
set_option maxHeartbeats 4000000 in
set_option maxRecDepth 100000 in
theorem mX2_begin (l : Launch) (D : va_G) (c : Nat → ClassId) (a_this : Nat) (a_p0 : Nat) (a_p0_knows : Nat) (a_p0_kind : Nat) (a_p0_on : Nat) (a_p0_has : Nat) (a_after : Nat) (a_puts : Nat) (a_choice : Nat) (a_best : Nat) (sz : Nat) (x_p0_basin : Int32) (x_p0_minute : Int32) (x_p0_members : Int32) (x_p0_leeches : Int32) (x_p0_on : Nat → Int32) (x_members : Int32) (x_leeches : Int32) (x_off : Int32) (x_limit : Int32) (x_most : Int32) (x_puts : Nat → Int32) (x_choice : Nat → Int32) (x_best : Nat → Int32) (v2 : Int32) (n : Nat) (rm_members : Int32) (rm_leeches : Int32) (rm_off : Int32) (rm_limit : Int32) (rm_most : Int32) (rm_puts : Nat → Int32) (rm_choice : Nat → Int32) (rm_best : Nat → Int32) (h : fX2_begin n x_p0_members x_p0_leeches x_p0_on x_members x_leeches x_off x_limit x_most x_puts x_choice x_best v2 = some (rm_members, rm_leeches, rm_off, rm_limit, rm_most, rm_puts, rm_choice, rm_best)) : Met l yX2_begin wsX2_begin ({ frames := 1, cells := 0, slots := 0, locals := 23 } : Room) (xPc D (xT c) sz [.ref a_this, .ref a_p0, .int v2] (wX2_begin c a_this a_p0 a_p0_knows a_p0_kind a_p0_on a_p0_has a_after a_puts a_choice a_best x_p0_basin x_p0_minute x_p0_members x_p0_leeches x_p0_on x_members x_leeches x_off x_limit x_most x_puts x_choice x_best) (fun _ => True)) (xQv D (xT c) (va_A (wX2_begin c a_this a_p0 a_p0_knows a_p0_kind a_p0_on a_p0_has a_after a_puts a_choice a_best x_p0_basin x_p0_minute x_p0_members x_p0_leeches x_p0_on x_members x_leeches x_off x_limit x_most x_puts x_choice x_best) sz) (wX2_begin c a_this a_p0 a_p0_knows a_p0_kind a_p0_on a_p0_has a_after a_puts a_choice a_best x_p0_basin x_p0_minute x_p0_members x_p0_leeches x_p0_on rm_members rm_leeches rm_off rm_limit rm_most rm_puts rm_choice rm_best)) 0 0 (va_A (wX2_begin c a_this a_p0 a_p0_knows a_p0_kind a_p0_on a_p0_has a_after a_puts a_choice a_best x_p0_basin x_p0_minute x_p0_members x_p0_leeches x_p0_on x_members x_leeches x_off x_limit x_most x_puts x_choice x_best) sz) := by
  refine Met.ofW (cc := cX2_begin) (maxL := 4) (ret := none) (by decide) rfl ?_
  intro p e s m args below meth cd s₁ B hml hv
  obtain ⟨rfl, hsz, hP, hK, hD0, hV⟩ := hv
  subst hsz
  have hl := lv_entry [.ref a_this, .ref a_p0, .int v2] (n := 4) (Nat.le_of_ble_eq_true rfl)
  rw [lg_entry_eq]
  exact kX2_begin_0 (A := va_A (wX2_begin c a_this a_p0 a_p0_knows a_p0_kind a_p0_on a_p0_has a_after a_puts a_choice a_best x_p0_basin x_p0_minute x_p0_members x_p0_leeches x_p0_on x_members x_leeches x_off x_limit x_most x_puts x_choice x_best) s.heap.size) ⟨B.exec, B.bytes, hml, B.returns, findClass_of_methodNamed B.named, atoms_spec (ws := wsX2_begin) B.pre, B.notSynchronized, fun q h => Or.inr h, hK⟩ a_this a_p0 a_p0_knows a_p0_kind a_p0_on a_p0_has a_after a_puts a_choice a_best x_p0_basin x_p0_minute x_p0_members x_p0_leeches x_p0_on n rm_members rm_leeches rm_off rm_limit rm_most rm_puts rm_choice rm_best x_members x_leeches x_off x_limit x_most x_puts x_choice x_best v2 h s.heap [] _ hP hD0.self va_S.rf hl

