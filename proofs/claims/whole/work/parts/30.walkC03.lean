abbrev wX2_judge (c : Nat → ClassId) (a_this : Nat) (a_after : Nat) (a_puts : Nat) (a_choice : Nat) (a_best : Nat) (a_after_e : Nat → Nat) (x_leeches : Int32) (x_off : Int32) (xp_after : Nat → Option Nat) (x_members : Int32) (x_choice : Nat → Int32) (x_puts : Nat → Int32) (x_after : Nat → Nat → Int32) (x_limit : Int32) (x_most : Int32) (x_best : Nat → Int32) : va_W := [(a_this, .inr (2, [.ref a_after, .ref a_puts, .ref a_choice, .ref a_best, .int x_most, .int x_members, .int x_leeches, .int x_off, .int x_limit])), (a_choice, .inl (c 0, 5, .inl x_choice)), (a_best, .inl (c 0, 5, .inl x_best)), (a_after, .inl (c 5, 4, .inr (.inr (.inr (.inr xp_after))))), (a_puts, .inl (c 0, 4, .inl x_puts)), ((a_after_e 0), .inl (c 0, 32, .inl (x_after 0))), ((a_after_e 1), .inl (c 0, 32, .inl (x_after 1))), ((a_after_e 2), .inl (c 0, 32, .inl (x_after 2))), ((a_after_e 3), .inl (c 0, 32, .inl (x_after 3)))]
def GX2_judge (p : Program) (l : Launch) (e : Env) (s : State) (m : MethodId) (args : Array Value) (below : List Frame) (meth : Method) (cd : Code) (D : va_G) (c : Nat → ClassId) (A : Nat → Prop) (a_this : Nat) (a_after : Nat) (a_puts : Nat) (a_choice : Nat) (a_best : Nat) (a_after_e : Nat → Nat) (x_leeches : Int32) (x_off : Int32) (xp_after : Nat → Option Nat) (x_members : Int32) (x_choice : Nat → Int32) (x_puts : Nat → Int32) (x_after : Nat → Nat → Int32) (x_limit : Int32) (rm_most : Int32) (rm_best : Nat → Int32) (pc : Nat) (st : List Value) (loc : List (Nat × Value)) (x_most : Int32) (x_best : Nat → Int32) : Prop :=
  ∀ (H : Heap) (locs : List Loc) (ls : Array Slot), va_P D vwCl (wX2_judge c a_this a_after a_puts a_choice a_best a_after_e x_leeches x_off xp_after x_members x_choice x_puts x_after x_limit x_most x_best) H → va_D A (wX2_judge c a_this a_after a_puts a_choice a_best a_after_e x_leeches x_off xp_after x_members x_choice x_puts x_after x_limit x_most x_best) → va_S A s.heap H locs → lv_has ls 4 loc → W p l e ({ frames := 1, cells := 0, slots := 0, locals := 100 } : Room) s m args below meth cd H locs 0 0 (MQ below (xQv D (xT c) A (wX2_judge c a_this a_after a_puts a_choice a_best a_after_e x_leeches x_off xp_after x_members x_choice x_puts x_after x_limit rm_most rm_best)) args s 0 0 A) (F0 m pc ls st)
theorem lkX2_judge_a66 : Cond.methodLink RX2 66 arraycopyName ∈ wsX2_judge := by decide +kernel
theorem lkX2_judge_an66 : Cond.native arraycopyName ∈ wsX2_judge := by decide +kernel
theorem lkX2_judge_as66 : Cond.static arraycopyName ∈ wsX2_judge := by decide +kernel
theorem lkX2_judge_ai66 : Cond.initialized "java/lang/System" ∈ wsX2_judge := by decide +kernel
theorem lkX2_judge_f11 : Cond.fieldLink RX2 11 "LeechClub$Plan" "after" "[[I" ∈ wsX2_judge := by decide +kernel
theorem lkX2_judge_f16 : Cond.fieldLink RX2 16 "LeechClub$Plan" "puts" "[I" ∈ wsX2_judge := by decide +kernel
theorem lkX2_judge_f20 : Cond.fieldLink RX2 20 "LeechClub$Plan" "choice" "[I" ∈ wsX2_judge := by decide +kernel
theorem lkX2_judge_f23 : Cond.fieldLink RX2 23 "LeechClub$Plan" "best" "[I" ∈ wsX2_judge := by decide +kernel
theorem lkX2_judge_f32 : Cond.fieldLink RX2 32 "LeechClub$Plan" "members" "I" ∈ wsX2_judge := by decide +kernel
theorem lkX2_judge_f44 : Cond.fieldLink RX2 44 "LeechClub$Plan" "limit" "I" ∈ wsX2_judge := by decide +kernel
theorem lkX2_judge_f47 : Cond.fieldLink RX2 47 "LeechClub$Plan" "most" "I" ∈ wsX2_judge := by decide +kernel
theorem inX2_judge_X2 : ∀ w ∈ wsX20, w ∈ wsX2_judge := by decide +kernel
set_option maxHeartbeats 4000000 in
set_option maxRecDepth 100000 in
theorem kX2_judge_81 {p : Program} {l : Launch} {e : Env} {s : State} {m : MethodId} {args : Array Value} {below : List Frame} {meth : Method} {cd : Code} {D : va_G} {c : Nat → ClassId} {A : Nat → Prop} (E0 : xE p s m args meth cd D (xT c) A RX2 cX2_judge 4 none wsX2_judge) (a_this : Nat) (a_after : Nat) (a_puts : Nat) (a_choice : Nat) (a_best : Nat) (a_after_e : Nat → Nat) (x_leeches : Int32) (x_off : Int32) (xp_after : Nat → Option Nat) (x_members : Int32) (x_choice : Nat → Int32) (x_puts : Nat → Int32) (x_after : Nat → Nat → Int32) (x_limit : Int32) (n : Nat) (rm_most : Int32) (rm_best : Nat → Int32) (hp_after : ∀ j, j < 4 → xp_after j = some (a_after_e j)) (x_most : Int32) (x_best : Nat → Int32) (hr : fX2_judge_81 n x_members x_choice x_puts x_after x_limit x_most x_best = some (rm_most, rm_best)) : GX2_judge p l e s m args below meth cd D c A a_this a_after a_puts a_choice a_best a_after_e x_leeches x_off xp_after x_members x_choice x_puts x_after x_limit rm_most rm_best 81 [] [] x_most x_best := by
  have E1 := E0
  obtain ⟨hx, hb, hml, hret, hown, hts, hlocks, hA, hK⟩ := E1
  intro H locs ls hP hD hS hl
  unfold fX2_judge_81 at hr
  have g0 := x_some hr
  have e0 := x_p1 g0
  have e1 := x_p2 g0
  subst e0
  subst e1
  exact x_retv hx hb hret hlocks hP hD hK hS dX2_judge_81
set_option maxHeartbeats 4000000 in
set_option maxRecDepth 100000 in
theorem kX2_judge_4 {p : Program} {l : Launch} {e : Env} {s : State} {m : MethodId} {args : Array Value} {below : List Frame} {meth : Method} {cd : Code} {D : va_G} {c : Nat → ClassId} {A : Nat → Prop} (E0 : xE p s m args meth cd D (xT c) A RX2 cX2_judge 4 none wsX2_judge) (a_this : Nat) (a_after : Nat) (a_puts : Nat) (a_choice : Nat) (a_best : Nat) (a_after_e : Nat → Nat) (x_leeches : Int32) (x_off : Int32) (xp_after : Nat → Option Nat) (x_members : Int32) (x_choice : Nat → Int32) (x_puts : Nat → Int32) (x_after : Nat → Nat → Int32) (x_limit : Int32) (n : Nat) (rm_most : Int32) (rm_best : Nat → Int32) (hp_after : ∀ j, j < 4 → xp_after j = some (a_after_e j)) : ∀ (k : Nat) (x_most : Int32) (x_best : Nat → Int32) (v1 : Int32) (v2 : Int32), fX2_judge_4 n x_members x_choice x_puts x_after x_limit k x_most x_best v1 v2 = some (rm_most, rm_best) → GX2_judge p l e s m args below meth cd D c A a_this a_after a_puts a_choice a_best a_after_e x_leeches x_off xp_after x_members x_choice x_puts x_after x_limit rm_most rm_best 4 [] [(0, .ref a_this), (1, .int v1), (2, .int v2)] x_most x_best := by
  have E1 := E0
  obtain ⟨hx, hb, hml, hret, hown, hts, hlocks, hA, hK⟩ := E1
  intro k
  induction k with
  | zero => intro x_most x_best v1 v2 hr; cases hr
  | succ k h_4 =>
    intro x_most x_best v1 v2 hr H locs ls hP hD hS hl
    unfold fX2_judge_4 at hr
    refine lv_iload_n hx hb dX2_judge_4 rfl (lv_at hl 2 rfl) ?_
    refine lv_aload_n hx hb dX2_judge_5 rfl (lv_at hl 0 rfl) ?_
    refine va_get (D := D) (ci := 2) (v := .int x_members) (C := RX2) (T := TX2) (N := 9) hx hb hts inX2_judge_X2 hown hK hP 0 rfl rfl 5 (by decide) (hts _ lkX2_judge_f32) (fun _ h9 => h9) rfl dX2_judge_6 ?_
    refine lv_icmp_ge (tgt := 48) hx hb dX2_judge_9 (by decide) (fun c_1 => ?_) (fun c_1 => ?_)
    · have hr := x_ift hr c_1
      refine lv_iload_n hx hb dX2_judge_48 rfl (lv_at hl 1 rfl) ?_
      obtain ⟨q2_0, hc2, hr⟩ := x_bind hr
      refine x_runi (wr := [(a_this, .inr (2, [.ref a_after, .ref a_puts, .ref a_choice, .ref a_best, .int x_most, .int x_members, .int x_leeches, .int x_off, .int x_limit])), (a_choice, .inl (c 0, 5, .inl x_choice)), (a_best, .inl (c 0, 5, .inl x_best)), (a_after, .inl (c 5, 4, .inr (.inr (.inr (.inr xp_after))))), (a_puts, .inl (c 0, 4, .inl x_puts)), ((a_after_e 0), .inl (c 0, 32, .inl (x_after 0))), ((a_after_e 1), .inl (c 0, 32, .inl (x_after 1))), ((a_after_e 2), .inl (c 0, 32, .inl (x_after 2))), ((a_after_e 3), .inl (c 0, 32, .inl (x_after 3)))]) (wf := [(a_this, .inr (2, [.ref a_after, .ref a_puts, .ref a_choice, .ref a_best, .int x_most, .int x_members, .int x_leeches, .int x_off, .int x_limit])), (a_choice, .inl (c 0, 5, .inl x_choice)), (a_best, .inl (c 0, 5, .inl x_best)), (a_after, .inl (c 5, 4, .inr (.inr (.inr (.inr xp_after))))), (a_puts, .inl (c 0, 4, .inl x_puts)), ((a_after_e 0), .inl (c 0, 32, .inl (x_after 0))), ((a_after_e 1), .inl (c 0, 32, .inl (x_after 1))), ((a_after_e 2), .inl (c 0, 32, .inl (x_after 2))), ((a_after_e 3), .inl (c 0, 32, .inl (x_after 3)))]) (x_goS (As := [.int v1]) (rest := []) ⟨hx, hb, hml, hown, hts⟩ (mJ6_bitCount_0f7a4 l D c H.size v1 n _ hc2) (va_cwS 1 hts gX2_judge_J6_bitCount_0f7a4 rfl rfl rfl (by decide +kernel) ⟨Nat.le_of_ble_eq_true rfl, Nat.le_of_ble_eq_true rfl⟩) xB_t hP hD hK [] rfl (by decide) (fun _ _ _ => trivial) rfl hl.1 rfl (Nat.le_of_ble_eq_true rfl) dX2_judge_49) hP hD hS hA [] [0, 1, 2, 3, 4, 5, 6, 7, 8] [0, 1, 2, 3, 4, 5, 6, 7, 8] rfl rfl rfl ⟨by decide, by decide, by decide⟩ (fun H locs hP hD hS => ?_)
      refine lv_aload_n hx hb dX2_judge_52 rfl (lv_at hl 0 rfl) ?_
      refine va_get (D := D) (ci := 2) (v := .int x_most) (C := RX2) (T := TX2) (N := 9) hx hb hts inX2_judge_X2 hown hK hP 0 rfl rfl 4 (by decide) (hts _ lkX2_judge_f47) (fun _ h9 => h9) rfl dX2_judge_53 ?_
      refine lv_icmp_le (tgt := 81) hx hb dX2_judge_56 (by decide) (fun c_3 => ?_) (fun c_3 => ?_)
      · have hr := x_ift hr c_3
        exact kX2_judge_81 E0 a_this a_after a_puts a_choice a_best a_after_e x_leeches x_off xp_after x_members x_choice x_puts x_after x_limit n rm_most rm_best hp_after x_most x_best hr H locs ls hP hD hS (lv_sub hl [] rfl)
      · have hr := x_iff hr c_3
        refine lv_aload_n hx hb dX2_judge_59 rfl (lv_at hl 0 rfl) ?_
        refine lv_iload_n hx hb dX2_judge_60 rfl (lv_at hl 1 rfl) ?_
        obtain ⟨q4_0, hc4, hr⟩ := x_bind hr
        refine x_runi (wr := [(a_this, .inr (2, [.ref a_after, .ref a_puts, .ref a_choice, .ref a_best, .int x_most, .int x_members, .int x_leeches, .int x_off, .int x_limit])), (a_choice, .inl (c 0, 5, .inl x_choice)), (a_best, .inl (c 0, 5, .inl x_best)), (a_after, .inl (c 5, 4, .inr (.inr (.inr (.inr xp_after))))), (a_puts, .inl (c 0, 4, .inl x_puts)), ((a_after_e 0), .inl (c 0, 32, .inl (x_after 0))), ((a_after_e 1), .inl (c 0, 32, .inl (x_after 1))), ((a_after_e 2), .inl (c 0, 32, .inl (x_after 2))), ((a_after_e 3), .inl (c 0, 32, .inl (x_after 3)))]) (wf := [(a_this, .inr (2, [.ref a_after, .ref a_puts, .ref a_choice, .ref a_best, .int x_most, .int x_members, .int x_leeches, .int x_off, .int x_limit])), (a_choice, .inl (c 0, 5, .inl x_choice)), (a_best, .inl (c 0, 5, .inl x_best)), (a_after, .inl (c 5, 4, .inr (.inr (.inr (.inr xp_after))))), (a_puts, .inl (c 0, 4, .inl x_puts)), ((a_after_e 0), .inl (c 0, 32, .inl (x_after 0))), ((a_after_e 1), .inl (c 0, 32, .inl (x_after 1))), ((a_after_e 2), .inl (c 0, 32, .inl (x_after 2))), ((a_after_e 3), .inl (c 0, 32, .inl (x_after 3)))]) (x_goS (As := [.int v1]) (rest := [.ref a_this]) ⟨hx, hb, hml, hown, hts⟩ (mJ6_bitCount_0f7a4 l D c H.size v1 n _ hc4) (va_cwS 1 hts gX2_judge_J6_bitCount_0f7a4 rfl rfl rfl (by decide +kernel) ⟨Nat.le_of_ble_eq_true rfl, Nat.le_of_ble_eq_true rfl⟩) xB_t hP hD hK [] rfl (by decide) (fun _ _ _ => trivial) rfl hl.1 rfl (Nat.le_of_ble_eq_true rfl) dX2_judge_61) hP hD hS hA [] [0, 1, 2, 3, 4, 5, 6, 7, 8] [0, 1, 2, 3, 4, 5, 6, 7, 8] rfl rfl rfl ⟨by decide, by decide, by decide⟩ (fun H locs hP hD hS => ?_)
        refine va_put (D := D) (ci := 2) (v := .int q4_0) (ty := .int) (C := RX2) (T := TX2) (N := 9) hx hb hts inX2_judge_X2 tyX2 tyX2_ok nmX2 hown hK hP hD hS 0 rfl rfl 4 (by decide) (hts _ lkX2_judge_f47) (fun _ h9 => h9) rfl (by decide +kernel) rfl rfl (Nat.le_of_ble_eq_true rfl) dX2_judge_64 (fun H locs hP hD hS => ?_)
        have hP : va_P D vwCl [(a_this, .inr (2, [.ref a_after, .ref a_puts, .ref a_choice, .ref a_best, .int q4_0, .int x_members, .int x_leeches, .int x_off, .int x_limit])), (a_choice, .inl (c 0, 5, .inl x_choice)), (a_best, .inl (c 0, 5, .inl x_best)), (a_after, .inl (c 5, 4, .inr (.inr (.inr (.inr xp_after))))), (a_puts, .inl (c 0, 4, .inl x_puts)), ((a_after_e 0), .inl (c 0, 32, .inl (x_after 0))), ((a_after_e 1), .inl (c 0, 32, .inl (x_after 1))), ((a_after_e 2), .inl (c 0, 32, .inl (x_after 2))), ((a_after_e 3), .inl (c 0, 32, .inl (x_after 3)))] H := hP
        have hD : va_D A [(a_this, .inr (2, [.ref a_after, .ref a_puts, .ref a_choice, .ref a_best, .int q4_0, .int x_members, .int x_leeches, .int x_off, .int x_limit])), (a_choice, .inl (c 0, 5, .inl x_choice)), (a_best, .inl (c 0, 5, .inl x_best)), (a_after, .inl (c 5, 4, .inr (.inr (.inr (.inr xp_after))))), (a_puts, .inl (c 0, 4, .inl x_puts)), ((a_after_e 0), .inl (c 0, 32, .inl (x_after 0))), ((a_after_e 1), .inl (c 0, 32, .inl (x_after 1))), ((a_after_e 2), .inl (c 0, 32, .inl (x_after 2))), ((a_after_e 3), .inl (c 0, 32, .inl (x_after 3)))] := hD
        refine lv_aload_n hx hb dX2_judge_67 rfl (lv_at hl 0 rfl) ?_
        refine va_get (D := D) (ci := 2) (v := .ref a_choice) (C := RX2) (T := TX2) (N := 9) hx hb hts inX2_judge_X2 hown hK hP 0 rfl rfl 2 (by decide) (hts _ lkX2_judge_f20) (fun _ h9 => h9) rfl dX2_judge_68 ?_
        refine lv_iconst (v := 0) hx hb dX2_judge_71 (by decide) ?_
        refine lv_aload_n hx hb dX2_judge_72 rfl (lv_at hl 0 rfl) ?_
        refine va_get (D := D) (ci := 2) (v := .ref a_best) (C := RX2) (T := TX2) (N := 9) hx hb hts inX2_judge_X2 hown hK hP 0 rfl rfl 3 (by decide) (hts _ lkX2_judge_f23) (fun _ h9 => h9) rfl dX2_judge_73 ?_
        refine lv_iconst (v := 0) hx hb dX2_judge_76 (by decide) ?_
        refine lv_iconst (v := 5) hx hb dX2_judge_77 (by decide) ?_
        refine va_copyi hx hb (hml.trans hl.1.symm) hown (hts _ lkX2_judge_a66) (hts _ lkX2_judge_an66) (hts _ lkX2_judge_as66) (hts _ lkX2_judge_ai66) hK hP hD hS 1 2 0 0 rfl rfl rfl rfl rfl (by decide) (by decide) (by decide) (by decide) (by decide) (fun _ _ => rfl) (Nat.le_of_ble_eq_true rfl) (Nat.le_of_ble_eq_true rfl) dX2_judge_78 (fun H locs hP hD hS => ?_)
        have hP : va_P D vwCl [(a_this, .inr (2, [.ref a_after, .ref a_puts, .ref a_choice, .ref a_best, .int q4_0, .int x_members, .int x_leeches, .int x_off, .int x_limit])), (a_choice, .inl (c 0, 5, .inl x_choice)), (a_best, .inl (c 0, 5, .inl (va_cpy x_choice x_best 0 0 5))), (a_after, .inl (c 5, 4, .inr (.inr (.inr (.inr xp_after))))), (a_puts, .inl (c 0, 4, .inl x_puts)), ((a_after_e 0), .inl (c 0, 32, .inl (x_after 0))), ((a_after_e 1), .inl (c 0, 32, .inl (x_after 1))), ((a_after_e 2), .inl (c 0, 32, .inl (x_after 2))), ((a_after_e 3), .inl (c 0, 32, .inl (x_after 3)))] H := hP
        have hD : va_D A [(a_this, .inr (2, [.ref a_after, .ref a_puts, .ref a_choice, .ref a_best, .int q4_0, .int x_members, .int x_leeches, .int x_off, .int x_limit])), (a_choice, .inl (c 0, 5, .inl x_choice)), (a_best, .inl (c 0, 5, .inl (va_cpy x_choice x_best 0 0 5))), (a_after, .inl (c 5, 4, .inr (.inr (.inr (.inr xp_after))))), (a_puts, .inl (c 0, 4, .inl x_puts)), ((a_after_e 0), .inl (c 0, 32, .inl (x_after 0))), ((a_after_e 1), .inl (c 0, 32, .inl (x_after 1))), ((a_after_e 2), .inl (c 0, 32, .inl (x_after 2))), ((a_after_e 3), .inl (c 0, 32, .inl (x_after 3)))] := hD
        exact kX2_judge_81 E0 a_this a_after a_puts a_choice a_best a_after_e x_leeches x_off xp_after x_members x_choice x_puts x_after x_limit n rm_most rm_best hp_after q4_0 (va_cpy x_choice x_best 0 0 5) hr H locs ls hP hD hS (lv_sub hl [] rfl)
    · have hr := x_iff hr c_1
      refine lv_aload_n hx hb dX2_judge_12 rfl (lv_at hl 0 rfl) ?_
      refine va_get (D := D) (ci := 2) (v := .ref a_after) (C := RX2) (T := TX2) (N := 9) hx hb hts inX2_judge_X2 hown hK hP 0 rfl rfl 0 (by decide) (hts _ lkX2_judge_f11) (fun _ h9 => h9) rfl dX2_judge_13 ?_
      refine lv_iload_n hx hb dX2_judge_16 rfl (lv_at hl 2 rfl) ?_
      obtain ⟨b_5, hr⟩ := x_chk hr
      have b_6 := x_in0 b_5
      refine x_aldg hx hb hK hP 3 5 rfl rfl b_5 dX2_judge_17 ?_
      generalize he_6 : v2.toNatClampNeg = w_6 at hr b_6 ⊢
      rcases x_lt4 b_6 with rfl | rfl | rfl | rfl
      · refine W.eq (g2 := F0 m 18 ls [.ref (a_after_e 0)]) (congrArg (fun z => F0 m 18 ls (va_rf z :: [])) (hp_after 0 (by decide))) ?_
        refine lv_aload_n hx hb dX2_judge_18 rfl (lv_at hl 0 rfl) ?_
        refine va_get (D := D) (ci := 2) (v := .ref a_puts) (C := RX2) (T := TX2) (N := 9) hx hb hts inX2_judge_X2 hown hK hP 0 rfl rfl 1 (by decide) (hts _ lkX2_judge_f16) (fun _ h9 => h9) rfl dX2_judge_19 ?_
        refine lv_iload_n hx hb dX2_judge_22 rfl (lv_at hl 2 rfl) ?_
        obtain ⟨b_7, hr⟩ := x_chk hr
        refine va_iald hx hb hK hP 4 0 rfl rfl (x_vin he_6 b_7) dX2_judge_23 ?_
        rw [he_6]
        obtain ⟨b_8, hr⟩ := x_chk hr
        refine va_iald hx hb hK hP 5 0 rfl rfl b_8 dX2_judge_24 ?_
        refine lv_istore_n (lv' := [(3, .int ((x_after 0) (x_puts 0).toNatClampNeg)), (0, .ref a_this), (1, .int v1), (2, .int v2)]) hx hb dX2_judge_25 rfl hl (by decide) rfl (fun ls hl => ?_)
        refine lv_iload_n hx hb dX2_judge_26 rfl (lv_at hl 0 rfl) ?_
        obtain ⟨q9_0, hc9, hr⟩ := x_bind hr
        refine x_runi (wr := [(a_this, .inr (2, [.ref a_after, .ref a_puts, .ref a_choice, .ref a_best, .int x_most, .int x_members, .int x_leeches, .int x_off, .int x_limit])), (a_choice, .inl (c 0, 5, .inl x_choice)), (a_best, .inl (c 0, 5, .inl x_best)), (a_after, .inl (c 5, 4, .inr (.inr (.inr (.inr xp_after))))), (a_puts, .inl (c 0, 4, .inl x_puts)), ((a_after_e 0), .inl (c 0, 32, .inl (x_after 0))), ((a_after_e 1), .inl (c 0, 32, .inl (x_after 1))), ((a_after_e 2), .inl (c 0, 32, .inl (x_after 2))), ((a_after_e 3), .inl (c 0, 32, .inl (x_after 3)))]) (wf := [(a_this, .inr (2, [.ref a_after, .ref a_puts, .ref a_choice, .ref a_best, .int x_most, .int x_members, .int x_leeches, .int x_off, .int x_limit])), (a_choice, .inl (c 0, 5, .inl x_choice)), (a_best, .inl (c 0, 5, .inl x_best)), (a_after, .inl (c 5, 4, .inr (.inr (.inr (.inr xp_after))))), (a_puts, .inl (c 0, 4, .inl x_puts)), ((a_after_e 0), .inl (c 0, 32, .inl (x_after 0))), ((a_after_e 1), .inl (c 0, 32, .inl (x_after 1))), ((a_after_e 2), .inl (c 0, 32, .inl (x_after 2))), ((a_after_e 3), .inl (c 0, 32, .inl (x_after 3)))]) (x_goS (As := [.int ((x_after 0) (x_puts 0).toNatClampNeg)]) (rest := []) ⟨hx, hb, hml, hown, hts⟩ (mJ6_bitCount_0f7a4 l D c H.size ((x_after 0) (x_puts 0).toNatClampNeg) n _ hc9) (va_cwS 1 hts gX2_judge_J6_bitCount_0f7a4 rfl rfl rfl (by decide +kernel) ⟨Nat.le_of_ble_eq_true rfl, Nat.le_of_ble_eq_true rfl⟩) xB_t hP hD hK [] rfl (by decide) (fun _ _ _ => trivial) rfl hl.1 rfl (Nat.le_of_ble_eq_true rfl) dX2_judge_27) hP hD hS hA [] [0, 1, 2, 3, 4, 5, 6, 7, 8] [0, 1, 2, 3, 4, 5, 6, 7, 8] rfl rfl rfl ⟨by decide, by decide, by decide⟩ (fun H locs hP hD hS => ?_)
        refine lv_aload_n hx hb dX2_judge_30 rfl (lv_at hl 1 rfl) ?_
        refine va_get (D := D) (ci := 2) (v := .int x_limit) (C := RX2) (T := TX2) (N := 9) hx hb hts inX2_judge_X2 hown hK hP 0 rfl rfl 8 (by decide) (hts _ lkX2_judge_f44) (fun _ h9 => h9) rfl dX2_judge_31 ?_
        refine lv_icmp_le (tgt := 38) hx hb dX2_judge_34 (by decide) (fun c_10 => ?_) (fun c_10 => ?_)
        · have hr := x_ift hr c_10
          refine lv_iload_n hx hb dX2_judge_38 rfl (lv_at hl 2 rfl) ?_
          refine lv_iload_n hx hb dX2_judge_39 rfl (lv_at hl 0 rfl) ?_
          refine lv_ior hx hb dX2_judge_40 ?_
          refine lv_istore_n (lv' := [(1, .int (v1 ||| ((x_after 0) (x_puts 0).toNatClampNeg))), (3, .int ((x_after 0) (x_puts 0).toNatClampNeg)), (0, .ref a_this), (2, .int v2)]) hx hb dX2_judge_41 rfl hl (by decide) rfl (fun ls hl => ?_)
          refine lv_iinc (v := v2 + 1) (lv' := [(2, .int (v2 + 1)), (1, .int (v1 ||| ((x_after 0) (x_puts 0).toNatClampNeg))), (3, .int ((x_after 0) (x_puts 0).toNatClampNeg)), (0, .ref a_this)]) hx hb dX2_judge_42 hl (k := 3) rfl rfl (by decide) rfl (fun ls hl => ?_)
          refine lv_goto (tgt := 4) hx hb dX2_judge_45 (by decide) ?_
          exact h_4 x_most x_best (v1 ||| ((x_after 0) (x_puts 0).toNatClampNeg)) (v2 + 1) hr H locs ls hP hD hS (lv_sub hl [3, 1, 0] rfl)
        · have hr := x_iff hr c_10
          have g0 := x_some hr
          have e0 := x_p1 g0
          have e1 := x_p2 g0
          subst e0
          subst e1
          exact x_retv hx hb hret hlocks hP hD hK hS dX2_judge_37
      · refine W.eq (g2 := F0 m 18 ls [.ref (a_after_e 1)]) (congrArg (fun z => F0 m 18 ls (va_rf z :: [])) (hp_after 1 (by decide))) ?_
        refine lv_aload_n hx hb dX2_judge_18 rfl (lv_at hl 0 rfl) ?_
        refine va_get (D := D) (ci := 2) (v := .ref a_puts) (C := RX2) (T := TX2) (N := 9) hx hb hts inX2_judge_X2 hown hK hP 0 rfl rfl 1 (by decide) (hts _ lkX2_judge_f16) (fun _ h9 => h9) rfl dX2_judge_19 ?_
        refine lv_iload_n hx hb dX2_judge_22 rfl (lv_at hl 2 rfl) ?_
        obtain ⟨b_11, hr⟩ := x_chk hr
        refine va_iald hx hb hK hP 4 0 rfl rfl (x_vin he_6 b_11) dX2_judge_23 ?_
        rw [he_6]
        obtain ⟨b_12, hr⟩ := x_chk hr
        refine va_iald hx hb hK hP 6 0 rfl rfl b_12 dX2_judge_24 ?_
        refine lv_istore_n (lv' := [(3, .int ((x_after 1) (x_puts 1).toNatClampNeg)), (0, .ref a_this), (1, .int v1), (2, .int v2)]) hx hb dX2_judge_25 rfl hl (by decide) rfl (fun ls hl => ?_)
        refine lv_iload_n hx hb dX2_judge_26 rfl (lv_at hl 0 rfl) ?_
        obtain ⟨q13_0, hc13, hr⟩ := x_bind hr
        refine x_runi (wr := [(a_this, .inr (2, [.ref a_after, .ref a_puts, .ref a_choice, .ref a_best, .int x_most, .int x_members, .int x_leeches, .int x_off, .int x_limit])), (a_choice, .inl (c 0, 5, .inl x_choice)), (a_best, .inl (c 0, 5, .inl x_best)), (a_after, .inl (c 5, 4, .inr (.inr (.inr (.inr xp_after))))), (a_puts, .inl (c 0, 4, .inl x_puts)), ((a_after_e 0), .inl (c 0, 32, .inl (x_after 0))), ((a_after_e 1), .inl (c 0, 32, .inl (x_after 1))), ((a_after_e 2), .inl (c 0, 32, .inl (x_after 2))), ((a_after_e 3), .inl (c 0, 32, .inl (x_after 3)))]) (wf := [(a_this, .inr (2, [.ref a_after, .ref a_puts, .ref a_choice, .ref a_best, .int x_most, .int x_members, .int x_leeches, .int x_off, .int x_limit])), (a_choice, .inl (c 0, 5, .inl x_choice)), (a_best, .inl (c 0, 5, .inl x_best)), (a_after, .inl (c 5, 4, .inr (.inr (.inr (.inr xp_after))))), (a_puts, .inl (c 0, 4, .inl x_puts)), ((a_after_e 0), .inl (c 0, 32, .inl (x_after 0))), ((a_after_e 1), .inl (c 0, 32, .inl (x_after 1))), ((a_after_e 2), .inl (c 0, 32, .inl (x_after 2))), ((a_after_e 3), .inl (c 0, 32, .inl (x_after 3)))]) (x_goS (As := [.int ((x_after 1) (x_puts 1).toNatClampNeg)]) (rest := []) ⟨hx, hb, hml, hown, hts⟩ (mJ6_bitCount_0f7a4 l D c H.size ((x_after 1) (x_puts 1).toNatClampNeg) n _ hc13) (va_cwS 1 hts gX2_judge_J6_bitCount_0f7a4 rfl rfl rfl (by decide +kernel) ⟨Nat.le_of_ble_eq_true rfl, Nat.le_of_ble_eq_true rfl⟩) xB_t hP hD hK [] rfl (by decide) (fun _ _ _ => trivial) rfl hl.1 rfl (Nat.le_of_ble_eq_true rfl) dX2_judge_27) hP hD hS hA [] [0, 1, 2, 3, 4, 5, 6, 7, 8] [0, 1, 2, 3, 4, 5, 6, 7, 8] rfl rfl rfl ⟨by decide, by decide, by decide⟩ (fun H locs hP hD hS => ?_)
        refine lv_aload_n hx hb dX2_judge_30 rfl (lv_at hl 1 rfl) ?_
        refine va_get (D := D) (ci := 2) (v := .int x_limit) (C := RX2) (T := TX2) (N := 9) hx hb hts inX2_judge_X2 hown hK hP 0 rfl rfl 8 (by decide) (hts _ lkX2_judge_f44) (fun _ h9 => h9) rfl dX2_judge_31 ?_
        refine lv_icmp_le (tgt := 38) hx hb dX2_judge_34 (by decide) (fun c_14 => ?_) (fun c_14 => ?_)
        · have hr := x_ift hr c_14
          refine lv_iload_n hx hb dX2_judge_38 rfl (lv_at hl 2 rfl) ?_
          refine lv_iload_n hx hb dX2_judge_39 rfl (lv_at hl 0 rfl) ?_
          refine lv_ior hx hb dX2_judge_40 ?_
          refine lv_istore_n (lv' := [(1, .int (v1 ||| ((x_after 1) (x_puts 1).toNatClampNeg))), (3, .int ((x_after 1) (x_puts 1).toNatClampNeg)), (0, .ref a_this), (2, .int v2)]) hx hb dX2_judge_41 rfl hl (by decide) rfl (fun ls hl => ?_)
          refine lv_iinc (v := v2 + 1) (lv' := [(2, .int (v2 + 1)), (1, .int (v1 ||| ((x_after 1) (x_puts 1).toNatClampNeg))), (3, .int ((x_after 1) (x_puts 1).toNatClampNeg)), (0, .ref a_this)]) hx hb dX2_judge_42 hl (k := 3) rfl rfl (by decide) rfl (fun ls hl => ?_)
          refine lv_goto (tgt := 4) hx hb dX2_judge_45 (by decide) ?_
          exact h_4 x_most x_best (v1 ||| ((x_after 1) (x_puts 1).toNatClampNeg)) (v2 + 1) hr H locs ls hP hD hS (lv_sub hl [3, 1, 0] rfl)
        · have hr := x_iff hr c_14
          have g0 := x_some hr
          have e0 := x_p1 g0
          have e1 := x_p2 g0
          subst e0
          subst e1
          exact x_retv hx hb hret hlocks hP hD hK hS dX2_judge_37
      · refine W.eq (g2 := F0 m 18 ls [.ref (a_after_e 2)]) (congrArg (fun z => F0 m 18 ls (va_rf z :: [])) (hp_after 2 (by decide))) ?_
        refine lv_aload_n hx hb dX2_judge_18 rfl (lv_at hl 0 rfl) ?_
        refine va_get (D := D) (ci := 2) (v := .ref a_puts) (C := RX2) (T := TX2) (N := 9) hx hb hts inX2_judge_X2 hown hK hP 0 rfl rfl 1 (by decide) (hts _ lkX2_judge_f16) (fun _ h9 => h9) rfl dX2_judge_19 ?_
        refine lv_iload_n hx hb dX2_judge_22 rfl (lv_at hl 2 rfl) ?_
        obtain ⟨b_15, hr⟩ := x_chk hr
        refine va_iald hx hb hK hP 4 0 rfl rfl (x_vin he_6 b_15) dX2_judge_23 ?_
        rw [he_6]
        obtain ⟨b_16, hr⟩ := x_chk hr
        refine va_iald hx hb hK hP 7 0 rfl rfl b_16 dX2_judge_24 ?_
        refine lv_istore_n (lv' := [(3, .int ((x_after 2) (x_puts 2).toNatClampNeg)), (0, .ref a_this), (1, .int v1), (2, .int v2)]) hx hb dX2_judge_25 rfl hl (by decide) rfl (fun ls hl => ?_)
        refine lv_iload_n hx hb dX2_judge_26 rfl (lv_at hl 0 rfl) ?_
        obtain ⟨q17_0, hc17, hr⟩ := x_bind hr
        refine x_runi (wr := [(a_this, .inr (2, [.ref a_after, .ref a_puts, .ref a_choice, .ref a_best, .int x_most, .int x_members, .int x_leeches, .int x_off, .int x_limit])), (a_choice, .inl (c 0, 5, .inl x_choice)), (a_best, .inl (c 0, 5, .inl x_best)), (a_after, .inl (c 5, 4, .inr (.inr (.inr (.inr xp_after))))), (a_puts, .inl (c 0, 4, .inl x_puts)), ((a_after_e 0), .inl (c 0, 32, .inl (x_after 0))), ((a_after_e 1), .inl (c 0, 32, .inl (x_after 1))), ((a_after_e 2), .inl (c 0, 32, .inl (x_after 2))), ((a_after_e 3), .inl (c 0, 32, .inl (x_after 3)))]) (wf := [(a_this, .inr (2, [.ref a_after, .ref a_puts, .ref a_choice, .ref a_best, .int x_most, .int x_members, .int x_leeches, .int x_off, .int x_limit])), (a_choice, .inl (c 0, 5, .inl x_choice)), (a_best, .inl (c 0, 5, .inl x_best)), (a_after, .inl (c 5, 4, .inr (.inr (.inr (.inr xp_after))))), (a_puts, .inl (c 0, 4, .inl x_puts)), ((a_after_e 0), .inl (c 0, 32, .inl (x_after 0))), ((a_after_e 1), .inl (c 0, 32, .inl (x_after 1))), ((a_after_e 2), .inl (c 0, 32, .inl (x_after 2))), ((a_after_e 3), .inl (c 0, 32, .inl (x_after 3)))]) (x_goS (As := [.int ((x_after 2) (x_puts 2).toNatClampNeg)]) (rest := []) ⟨hx, hb, hml, hown, hts⟩ (mJ6_bitCount_0f7a4 l D c H.size ((x_after 2) (x_puts 2).toNatClampNeg) n _ hc17) (va_cwS 1 hts gX2_judge_J6_bitCount_0f7a4 rfl rfl rfl (by decide +kernel) ⟨Nat.le_of_ble_eq_true rfl, Nat.le_of_ble_eq_true rfl⟩) xB_t hP hD hK [] rfl (by decide) (fun _ _ _ => trivial) rfl hl.1 rfl (Nat.le_of_ble_eq_true rfl) dX2_judge_27) hP hD hS hA [] [0, 1, 2, 3, 4, 5, 6, 7, 8] [0, 1, 2, 3, 4, 5, 6, 7, 8] rfl rfl rfl ⟨by decide, by decide, by decide⟩ (fun H locs hP hD hS => ?_)
        refine lv_aload_n hx hb dX2_judge_30 rfl (lv_at hl 1 rfl) ?_
        refine va_get (D := D) (ci := 2) (v := .int x_limit) (C := RX2) (T := TX2) (N := 9) hx hb hts inX2_judge_X2 hown hK hP 0 rfl rfl 8 (by decide) (hts _ lkX2_judge_f44) (fun _ h9 => h9) rfl dX2_judge_31 ?_
        refine lv_icmp_le (tgt := 38) hx hb dX2_judge_34 (by decide) (fun c_18 => ?_) (fun c_18 => ?_)
        · have hr := x_ift hr c_18
          refine lv_iload_n hx hb dX2_judge_38 rfl (lv_at hl 2 rfl) ?_
          refine lv_iload_n hx hb dX2_judge_39 rfl (lv_at hl 0 rfl) ?_
          refine lv_ior hx hb dX2_judge_40 ?_
          refine lv_istore_n (lv' := [(1, .int (v1 ||| ((x_after 2) (x_puts 2).toNatClampNeg))), (3, .int ((x_after 2) (x_puts 2).toNatClampNeg)), (0, .ref a_this), (2, .int v2)]) hx hb dX2_judge_41 rfl hl (by decide) rfl (fun ls hl => ?_)
          refine lv_iinc (v := v2 + 1) (lv' := [(2, .int (v2 + 1)), (1, .int (v1 ||| ((x_after 2) (x_puts 2).toNatClampNeg))), (3, .int ((x_after 2) (x_puts 2).toNatClampNeg)), (0, .ref a_this)]) hx hb dX2_judge_42 hl (k := 3) rfl rfl (by decide) rfl (fun ls hl => ?_)
          refine lv_goto (tgt := 4) hx hb dX2_judge_45 (by decide) ?_
          exact h_4 x_most x_best (v1 ||| ((x_after 2) (x_puts 2).toNatClampNeg)) (v2 + 1) hr H locs ls hP hD hS (lv_sub hl [3, 1, 0] rfl)
        · have hr := x_iff hr c_18
          have g0 := x_some hr
          have e0 := x_p1 g0
          have e1 := x_p2 g0
          subst e0
          subst e1
          exact x_retv hx hb hret hlocks hP hD hK hS dX2_judge_37
      · refine W.eq (g2 := F0 m 18 ls [.ref (a_after_e 3)]) (congrArg (fun z => F0 m 18 ls (va_rf z :: [])) (hp_after 3 (by decide))) ?_
        refine lv_aload_n hx hb dX2_judge_18 rfl (lv_at hl 0 rfl) ?_
        refine va_get (D := D) (ci := 2) (v := .ref a_puts) (C := RX2) (T := TX2) (N := 9) hx hb hts inX2_judge_X2 hown hK hP 0 rfl rfl 1 (by decide) (hts _ lkX2_judge_f16) (fun _ h9 => h9) rfl dX2_judge_19 ?_
        refine lv_iload_n hx hb dX2_judge_22 rfl (lv_at hl 2 rfl) ?_
        obtain ⟨b_19, hr⟩ := x_chk hr
        refine va_iald hx hb hK hP 4 0 rfl rfl (x_vin he_6 b_19) dX2_judge_23 ?_
        rw [he_6]
        obtain ⟨b_20, hr⟩ := x_chk hr
        refine va_iald hx hb hK hP 8 0 rfl rfl b_20 dX2_judge_24 ?_
        refine lv_istore_n (lv' := [(3, .int ((x_after 3) (x_puts 3).toNatClampNeg)), (0, .ref a_this), (1, .int v1), (2, .int v2)]) hx hb dX2_judge_25 rfl hl (by decide) rfl (fun ls hl => ?_)
        refine lv_iload_n hx hb dX2_judge_26 rfl (lv_at hl 0 rfl) ?_
        obtain ⟨q21_0, hc21, hr⟩ := x_bind hr
        refine x_runi (wr := [(a_this, .inr (2, [.ref a_after, .ref a_puts, .ref a_choice, .ref a_best, .int x_most, .int x_members, .int x_leeches, .int x_off, .int x_limit])), (a_choice, .inl (c 0, 5, .inl x_choice)), (a_best, .inl (c 0, 5, .inl x_best)), (a_after, .inl (c 5, 4, .inr (.inr (.inr (.inr xp_after))))), (a_puts, .inl (c 0, 4, .inl x_puts)), ((a_after_e 0), .inl (c 0, 32, .inl (x_after 0))), ((a_after_e 1), .inl (c 0, 32, .inl (x_after 1))), ((a_after_e 2), .inl (c 0, 32, .inl (x_after 2))), ((a_after_e 3), .inl (c 0, 32, .inl (x_after 3)))]) (wf := [(a_this, .inr (2, [.ref a_after, .ref a_puts, .ref a_choice, .ref a_best, .int x_most, .int x_members, .int x_leeches, .int x_off, .int x_limit])), (a_choice, .inl (c 0, 5, .inl x_choice)), (a_best, .inl (c 0, 5, .inl x_best)), (a_after, .inl (c 5, 4, .inr (.inr (.inr (.inr xp_after))))), (a_puts, .inl (c 0, 4, .inl x_puts)), ((a_after_e 0), .inl (c 0, 32, .inl (x_after 0))), ((a_after_e 1), .inl (c 0, 32, .inl (x_after 1))), ((a_after_e 2), .inl (c 0, 32, .inl (x_after 2))), ((a_after_e 3), .inl (c 0, 32, .inl (x_after 3)))]) (x_goS (As := [.int ((x_after 3) (x_puts 3).toNatClampNeg)]) (rest := []) ⟨hx, hb, hml, hown, hts⟩ (mJ6_bitCount_0f7a4 l D c H.size ((x_after 3) (x_puts 3).toNatClampNeg) n _ hc21) (va_cwS 1 hts gX2_judge_J6_bitCount_0f7a4 rfl rfl rfl (by decide +kernel) ⟨Nat.le_of_ble_eq_true rfl, Nat.le_of_ble_eq_true rfl⟩) xB_t hP hD hK [] rfl (by decide) (fun _ _ _ => trivial) rfl hl.1 rfl (Nat.le_of_ble_eq_true rfl) dX2_judge_27) hP hD hS hA [] [0, 1, 2, 3, 4, 5, 6, 7, 8] [0, 1, 2, 3, 4, 5, 6, 7, 8] rfl rfl rfl ⟨by decide, by decide, by decide⟩ (fun H locs hP hD hS => ?_)
        refine lv_aload_n hx hb dX2_judge_30 rfl (lv_at hl 1 rfl) ?_
        refine va_get (D := D) (ci := 2) (v := .int x_limit) (C := RX2) (T := TX2) (N := 9) hx hb hts inX2_judge_X2 hown hK hP 0 rfl rfl 8 (by decide) (hts _ lkX2_judge_f44) (fun _ h9 => h9) rfl dX2_judge_31 ?_
        refine lv_icmp_le (tgt := 38) hx hb dX2_judge_34 (by decide) (fun c_22 => ?_) (fun c_22 => ?_)
        · have hr := x_ift hr c_22
          refine lv_iload_n hx hb dX2_judge_38 rfl (lv_at hl 2 rfl) ?_
          refine lv_iload_n hx hb dX2_judge_39 rfl (lv_at hl 0 rfl) ?_
          refine lv_ior hx hb dX2_judge_40 ?_
          refine lv_istore_n (lv' := [(1, .int (v1 ||| ((x_after 3) (x_puts 3).toNatClampNeg))), (3, .int ((x_after 3) (x_puts 3).toNatClampNeg)), (0, .ref a_this), (2, .int v2)]) hx hb dX2_judge_41 rfl hl (by decide) rfl (fun ls hl => ?_)
          refine lv_iinc (v := v2 + 1) (lv' := [(2, .int (v2 + 1)), (1, .int (v1 ||| ((x_after 3) (x_puts 3).toNatClampNeg))), (3, .int ((x_after 3) (x_puts 3).toNatClampNeg)), (0, .ref a_this)]) hx hb dX2_judge_42 hl (k := 3) rfl rfl (by decide) rfl (fun ls hl => ?_)
          refine lv_goto (tgt := 4) hx hb dX2_judge_45 (by decide) ?_
          exact h_4 x_most x_best (v1 ||| ((x_after 3) (x_puts 3).toNatClampNeg)) (v2 + 1) hr H locs ls hP hD hS (lv_sub hl [3, 1, 0] rfl)
        · have hr := x_iff hr c_22
          have g0 := x_some hr
          have e0 := x_p1 g0
          have e1 := x_p2 g0
          subst e0
          subst e1
          exact x_retv hx hb hret hlocks hP hD hK hS dX2_judge_37
set_option maxHeartbeats 4000000 in
set_option maxRecDepth 100000 in
theorem kX2_judge_0 {p : Program} {l : Launch} {e : Env} {s : State} {m : MethodId} {args : Array Value} {below : List Frame} {meth : Method} {cd : Code} {D : va_G} {c : Nat → ClassId} {A : Nat → Prop} (E0 : xE p s m args meth cd D (xT c) A RX2 cX2_judge 4 none wsX2_judge) (a_this : Nat) (a_after : Nat) (a_puts : Nat) (a_choice : Nat) (a_best : Nat) (a_after_e : Nat → Nat) (x_leeches : Int32) (x_off : Int32) (xp_after : Nat → Option Nat) (x_members : Int32) (x_choice : Nat → Int32) (x_puts : Nat → Int32) (x_after : Nat → Nat → Int32) (x_limit : Int32) (n : Nat) (rm_most : Int32) (rm_best : Nat → Int32) (hp_after : ∀ j, j < 4 → xp_after j = some (a_after_e j)) (x_most : Int32) (x_best : Nat → Int32) (hr : fX2_judge n x_members x_choice x_puts x_after x_limit x_most x_best = some (rm_most, rm_best)) : GX2_judge p l e s m args below meth cd D c A a_this a_after a_puts a_choice a_best a_after_e x_leeches x_off xp_after x_members x_choice x_puts x_after x_limit rm_most rm_best 0 [] [(0, .ref a_this)] x_most x_best := by
  have E1 := E0
  obtain ⟨hx, hb, hml, hret, hown, hts, hlocks, hA, hK⟩ := E1
  intro H locs ls hP hD hS hl
  unfold fX2_judge at hr
  refine lv_iconst (v := 0) hx hb dX2_judge_0 (by decide) ?_
  refine lv_istore_n (lv' := [(1, .int 0), (0, .ref a_this)]) hx hb dX2_judge_1 rfl hl (by decide) rfl (fun ls hl => ?_)
  refine lv_iconst (v := 0) hx hb dX2_judge_2 (by decide) ?_
  refine lv_istore_n (lv' := [(2, .int 0), (1, .int 0), (0, .ref a_this)]) hx hb dX2_judge_3 rfl hl (by decide) rfl (fun ls hl => ?_)
  exact kX2_judge_4 E0 a_this a_after a_puts a_choice a_best a_after_e x_leeches x_off xp_after x_members x_choice x_puts x_after x_limit n rm_most rm_best hp_after n x_most x_best 0 0 hr H locs ls hP hD hS (lv_sub hl [2, 1, 0] rfl)
set_option maxHeartbeats 4000000 in
set_option maxRecDepth 100000 in
theorem mX2_judge (l : Launch) (D : va_G) (c : Nat → ClassId) (a_this : Nat) (a_after : Nat) (a_puts : Nat) (a_choice : Nat) (a_best : Nat) (a_after_e : Nat → Nat) (sz : Nat) (x_leeches : Int32) (x_off : Int32) (xp_after : Nat → Option Nat) (x_members : Int32) (x_choice : Nat → Int32) (x_puts : Nat → Int32) (x_after : Nat → Nat → Int32) (x_limit : Int32) (x_most : Int32) (x_best : Nat → Int32) (n : Nat) (rm_most : Int32) (rm_best : Nat → Int32) (h : fX2_judge n x_members x_choice x_puts x_after x_limit x_most x_best = some (rm_most, rm_best)) (hp_after : ∀ j, j < 4 → xp_after j = some (a_after_e j)) : Met l yX2_judge wsX2_judge ({ frames := 1, cells := 0, slots := 0, locals := 100 } : Room) (xPc D (xT c) sz [.ref a_this] (wX2_judge c a_this a_after a_puts a_choice a_best a_after_e x_leeches x_off xp_after x_members x_choice x_puts x_after x_limit x_most x_best) (fun _ => True)) (xQv D (xT c) (va_A (wX2_judge c a_this a_after a_puts a_choice a_best a_after_e x_leeches x_off xp_after x_members x_choice x_puts x_after x_limit x_most x_best) sz) (wX2_judge c a_this a_after a_puts a_choice a_best a_after_e x_leeches x_off xp_after x_members x_choice x_puts x_after x_limit rm_most rm_best)) 0 0 (va_A (wX2_judge c a_this a_after a_puts a_choice a_best a_after_e x_leeches x_off xp_after x_members x_choice x_puts x_after x_limit x_most x_best) sz) := by
  refine Met.ofW (cc := cX2_judge) (maxL := 4) (ret := none) (by decide) rfl ?_
  intro p e s m args below meth cd s₁ B hml hv
  obtain ⟨rfl, hsz, hP, hK, hD0, hV⟩ := hv
  subst hsz
  have hl := lv_entry [.ref a_this] (n := 4) (Nat.le_of_ble_eq_true rfl)
  rw [lg_entry_eq]
  exact kX2_judge_0 (A := va_A (wX2_judge c a_this a_after a_puts a_choice a_best a_after_e x_leeches x_off xp_after x_members x_choice x_puts x_after x_limit x_most x_best) s.heap.size) ⟨B.exec, B.bytes, hml, B.returns, findClass_of_methodNamed B.named, atoms_spec (ws := wsX2_judge) B.pre, B.notSynchronized, fun q h => Or.inr h, hK⟩ a_this a_after a_puts a_choice a_best a_after_e x_leeches x_off xp_after x_members x_choice x_puts x_after x_limit n rm_most rm_best hp_after x_most x_best h s.heap [] _ hP hD0.self va_S.rf hl

abbrev wX2_chooseFrom (c : Nat → ClassId) (a_this : Nat) (a_after : Nat) (a_puts : Nat) (a_choice : Nat) (a_best : Nat) (a_after_e : Nat → Nat) (ev : Nat → Nat) (xp_after : Nat → Option Nat) (x_leeches : Int32) (x_off : Int32) (x_members : Int32) (x_after : Nat → Nat → Int32) (x_limit : Int32) (x_choice : Nat → Int32) (x_most : Int32) (x_best : Nat → Int32) (x_puts : Nat → Int32) : va_W := [(a_this, .inr (2, [.ref a_after, .ref a_puts, .ref a_choice, .ref a_best, .int x_most, .int x_members, .int x_leeches, .int x_off, .int x_limit])), (a_choice, .inl (c 0, 5, .inl x_choice)), (a_best, .inl (c 0, 5, .inl x_best)), (a_after, .inl (c 5, 4, .inr (.inr (.inr (.inr xp_after))))), (a_puts, .inl (c 0, 4, .inl x_puts)), ((a_after_e 0), .inl (c 0, 32, .inl (x_after 0))), ((a_after_e 1), .inl (c 0, 32, .inl (x_after 1))), ((a_after_e 2), .inl (c 0, 32, .inl (x_after 2))), ((a_after_e 3), .inl (c 0, 32, .inl (x_after 3)))]
def GX2_chooseFrom (p : Program) (l : Launch) (e : Env) (s : State) (m : MethodId) (args : Array Value) (below : List Frame) (meth : Method) (cd : Code) (D : va_G) (c : Nat → ClassId) (A : Nat → Prop) (d : Nat) (a_this : Nat) (a_after : Nat) (a_puts : Nat) (a_choice : Nat) (a_best : Nat) (a_after_e : Nat → Nat) (ev : Nat → Nat) (xp_after : Nat → Option Nat) (x_leeches : Int32) (x_off : Int32) (x_members : Int32) (x_after : Nat → Nat → Int32) (x_limit : Int32) (rm_choice : Nat → Int32) (rm_most : Int32) (rm_best : Nat → Int32) (rm_puts : Nat → Int32) (pc : Nat) (st : List Value) (loc : List (Nat × Value)) (x_choice : Nat → Int32) (x_most : Int32) (x_best : Nat → Int32) (x_puts : Nat → Int32) : Prop :=
  ∀ (H : Heap) (locs : List Loc) (ls : Array Slot), va_P D vwCl (wX2_chooseFrom c a_this a_after a_puts a_choice a_best a_after_e ev xp_after x_leeches x_off x_members x_after x_limit x_choice x_most x_best x_puts) H → va_D A (wX2_chooseFrom c a_this a_after a_puts a_choice a_best a_after_e ev xp_after x_leeches x_off x_members x_after x_limit x_choice x_most x_best x_puts) → va_S A s.heap H locs → lv_has ls 3 loc → W p l e ({ frames := 2 + (d + 1), cells := 0, slots := 0, locals := 123 + (d + 1) * 22 } : Room) s m args below meth cd H locs 0 0 (MQ below (xQv D (xT c) A (wX2_chooseFrom c a_this a_after a_puts a_choice a_best a_after_e ev xp_after x_leeches x_off x_members x_after x_limit rm_choice rm_most rm_best rm_puts)) args s 0 0 A) (F0 m pc ls st)
theorem lkX2_chooseFrom_f16 : Cond.fieldLink RX2 16 "LeechClub$Plan" "puts" "[I" ∈ wsX2_chooseFrom := by decide +kernel
theorem lkX2_chooseFrom_f20 : Cond.fieldLink RX2 20 "LeechClub$Plan" "choice" "[I" ∈ wsX2_chooseFrom := by decide +kernel
theorem lkX2_chooseFrom_f32 : Cond.fieldLink RX2 32 "LeechClub$Plan" "members" "I" ∈ wsX2_chooseFrom := by decide +kernel
theorem lkX2_chooseFrom_f36 : Cond.fieldLink RX2 36 "LeechClub$Plan" "leeches" "I" ∈ wsX2_chooseFrom := by decide +kernel
theorem lkX2_chooseFrom_f41 : Cond.fieldLink RX2 41 "LeechClub$Plan" "off" "I" ∈ wsX2_chooseFrom := by decide +kernel
theorem lkX2_chooseFrom_iRX7 : Cond.initialized RX7 ∈ wsX2_chooseFrom := by decide +kernel
theorem lkX2_chooseFrom_sX7_hasBit : Cond.static yX7_hasBit ∈ wsX2_chooseFrom := by decide +kernel
theorem inX2_chooseFrom_X2 : ∀ w ∈ wsX20, w ∈ wsX2_chooseFrom := by decide +kernel
set_option maxHeartbeats 4000000 in
set_option maxRecDepth 100000 in
theorem kX2_chooseFrom_41 {p : Program} {l : Launch} {e : Env} {s : State} {m : MethodId} {args : Array Value} {below : List Frame} {meth : Method} {cd : Code} {D : va_G} {c : Nat → ClassId} {A : Nat → Prop} (E0 : xE p s m args meth cd D (xT c) A RX2 cX2_chooseFrom 3 none wsX2_chooseFrom) (d : Nat) (a_this : Nat) (a_after : Nat) (a_puts : Nat) (a_choice : Nat) (a_best : Nat) (a_after_e : Nat → Nat) (ev : Nat → Nat) (xp_after : Nat → Option Nat) (x_leeches : Int32) (x_off : Int32) (x_members : Int32) (x_after : Nat → Nat → Int32) (x_limit : Int32) (n : Nat) (rm_choice : Nat → Int32) (rm_most : Int32) (rm_best : Nat → Int32) (rm_puts : Nat → Int32) (hp_after : ∀ j, j < 4 → xp_after j = some (a_after_e j)) (hV : xV ev A s) (slf : (Nat → Int32) → Int32 → (Nat → Int32) → (Nat → Int32) → Int32 → Option ((Nat → Int32) × Int32 × (Nat → Int32) × (Nat → Int32))) (hslf : ∀ (sz : Nat) (x_choice : Nat → Int32) (x_most : Int32) (x_best : Nat → Int32) (x_puts : Nat → Int32) (v1 : Int32) (rm_choice : Nat → Int32) (rm_most : Int32) (rm_best : Nat → Int32) (rm_puts : Nat → Int32), slf x_choice x_most x_best x_puts v1 = some (rm_choice, rm_most, rm_best, rm_puts) → Met l yX2_chooseFrom wsX2_chooseFrom ({ frames := 2 + d, cells := 0, slots := 0, locals := 123 + d * 22 } : Room) (xPc D (xT c) sz [.ref a_this, .int v1] (wX2_chooseFrom c a_this a_after a_puts a_choice a_best a_after_e ev xp_after x_leeches x_off x_members x_after x_limit x_choice x_most x_best x_puts) (xV ev (va_A (wX2_chooseFrom c a_this a_after a_puts a_choice a_best a_after_e ev xp_after x_leeches x_off x_members x_after x_limit x_choice x_most x_best x_puts) sz))) (xQv D (xT c) (va_A (wX2_chooseFrom c a_this a_after a_puts a_choice a_best a_after_e ev xp_after x_leeches x_off x_members x_after x_limit x_choice x_most x_best x_puts) sz) (wX2_chooseFrom c a_this a_after a_puts a_choice a_best a_after_e ev xp_after x_leeches x_off x_members x_after x_limit rm_choice rm_most rm_best rm_puts)) 0 0 (va_A (wX2_chooseFrom c a_this a_after a_puts a_choice a_best a_after_e ev xp_after x_leeches x_off x_members x_after x_limit x_choice x_most x_best x_puts) sz)) : ∀ (k : Nat) (x_choice : Nat → Int32) (x_most : Int32) (x_best : Nat → Int32) (x_puts : Nat → Int32) (v1 : Int32) (v2 : Int32), fX2_chooseFrom_41 n slf x_leeches x_off x_members x_after x_limit k x_choice x_most x_best x_puts v1 v2 = some (rm_choice, rm_most, rm_best, rm_puts) → GX2_chooseFrom p l e s m args below meth cd D c A d a_this a_after a_puts a_choice a_best a_after_e ev xp_after x_leeches x_off x_members x_after x_limit rm_choice rm_most rm_best rm_puts 41 [] [(0, .ref a_this), (1, .int v1), (2, .int v2)] x_choice x_most x_best x_puts := by
  have E1 := E0
  obtain ⟨hx, hb, hml, hret, hown, hts, hlocks, hA, hK⟩ := E1
  have hVV := hV
  obtain ⟨hn_RX7_9, hn_RX6_17, hn_RX6_24, hn_RX7_18, hn_RX7_25, hn_RX7_45, hn_RX7_52, hn_RX7_65, hn_RX7_70, hn_RX0_31, hn_RX3_53, hn_RX2_57, hn_RX3_65, hn_RX3_86, hz_TAKES, ht_TAKES, hz_HAS_ROOM, ht_HAS_ROOM, hz_SUCH, ht_SUCH, hz_FIRST_FIGURE, ht_FIRST_FIGURE, hz_compact, hz_sioobe, ho_Room, ho_Slate, ho_grid, hstr, hs_0, hs_1, hs_2, hs_3, hs_4, hs_5, hs_6, hs_7, hs_8⟩ := hVV
  intro k
  induction k with
  | zero => intro x_choice x_most x_best x_puts v1 v2 hr; cases hr
  | succ k h_41 =>
    intro x_choice x_most x_best x_puts v1 v2 hr H locs ls hP hD hS hl
    unfold fX2_chooseFrom_41 at hr
    refine lv_iload_n hx hb dX2_chooseFrom_41 rfl (lv_at hl 2 rfl) ?_
    refine lv_aload_n hx hb dX2_chooseFrom_42 rfl (lv_at hl 0 rfl) ?_
    refine va_get (D := D) (ci := 2) (v := .int x_members) (C := RX2) (T := TX2) (N := 9) hx hb hts inX2_chooseFrom_X2 hown hK hP 0 rfl rfl 5 (by decide) (hts _ lkX2_chooseFrom_f32) (fun _ h9 => h9) rfl dX2_chooseFrom_43 ?_
    refine lv_icmp_ge (tgt := 95) hx hb dX2_chooseFrom_46 (by decide) (fun c_1 => ?_) (fun c_1 => ?_)
    · have hr := x_ift hr c_1
      have g0 := x_some hr
      have e0 := x_p1 g0
      have g1 := x_p2 g0
      have e1 := x_p1 g1
      have g2 := x_p2 g1
      have e2 := x_p1 g2
      have e3 := x_p2 g2
      subst e0
      subst e1
      subst e2
      subst e3
      exact x_retv hx hb hret hlocks hP hD hK hS dX2_chooseFrom_95
    · have hr := x_iff hr c_1
      refine lv_aload_n hx hb dX2_chooseFrom_49 rfl (lv_at hl 0 rfl) ?_
      refine va_get (D := D) (ci := 2) (v := .ref a_choice) (C := RX2) (T := TX2) (N := 9) hx hb hts inX2_chooseFrom_X2 hown hK hP 0 rfl rfl 2 (by decide) (hts _ lkX2_chooseFrom_f20) (fun _ h9 => h9) rfl dX2_chooseFrom_50 ?_
      refine lv_iload_n hx hb dX2_chooseFrom_53 rfl (lv_at hl 1 rfl) ?_
      refine lv_iload_n hx hb dX2_chooseFrom_54 rfl (lv_at hl 2 rfl) ?_
      obtain ⟨b_2, hr⟩ := x_chk hr
      refine va_iast hx hb hK hP hD hS 1 0 rfl rfl b_2 dX2_chooseFrom_55 (fun H locs hP hD hS => ?_)
      have hP : va_P D vwCl [(a_this, .inr (2, [.ref a_after, .ref a_puts, .ref a_choice, .ref a_best, .int x_most, .int x_members, .int x_leeches, .int x_off, .int x_limit])), (a_choice, .inl (c 0, 5, .inl (upd x_choice v1.toNatClampNeg v2))), (a_best, .inl (c 0, 5, .inl x_best)), (a_after, .inl (c 5, 4, .inr (.inr (.inr (.inr xp_after))))), (a_puts, .inl (c 0, 4, .inl x_puts)), ((a_after_e 0), .inl (c 0, 32, .inl (x_after 0))), ((a_after_e 1), .inl (c 0, 32, .inl (x_after 1))), ((a_after_e 2), .inl (c 0, 32, .inl (x_after 2))), ((a_after_e 3), .inl (c 0, 32, .inl (x_after 3)))] H := hP
      have hD : va_D A [(a_this, .inr (2, [.ref a_after, .ref a_puts, .ref a_choice, .ref a_best, .int x_most, .int x_members, .int x_leeches, .int x_off, .int x_limit])), (a_choice, .inl (c 0, 5, .inl (upd x_choice v1.toNatClampNeg v2))), (a_best, .inl (c 0, 5, .inl x_best)), (a_after, .inl (c 5, 4, .inr (.inr (.inr (.inr xp_after))))), (a_puts, .inl (c 0, 4, .inl x_puts)), ((a_after_e 0), .inl (c 0, 32, .inl (x_after 0))), ((a_after_e 1), .inl (c 0, 32, .inl (x_after 1))), ((a_after_e 2), .inl (c 0, 32, .inl (x_after 2))), ((a_after_e 3), .inl (c 0, 32, .inl (x_after 3)))] := hD
      refine lv_aload_n hx hb dX2_chooseFrom_56 rfl (lv_at hl 0 rfl) ?_
      refine va_get (D := D) (ci := 2) (v := .ref a_puts) (C := RX2) (T := TX2) (N := 9) hx hb hts inX2_chooseFrom_X2 hown hK hP 0 rfl rfl 1 (by decide) (hts _ lkX2_chooseFrom_f16) (fun _ h9 => h9) rfl dX2_chooseFrom_57 ?_
      refine lv_iload_n hx hb dX2_chooseFrom_60 rfl (lv_at hl 2 rfl) ?_
      refine lv_dup2_11 hx hb dX2_chooseFrom_61 rfl rfl ?_
      obtain ⟨b_3, hr⟩ := x_chk hr
      refine va_iald hx hb hK hP 4 0 rfl rfl b_3 dX2_chooseFrom_62 ?_
      refine lv_iconst (v := 1) hx hb dX2_chooseFrom_63 (by decide) ?_
      refine lv_iload_n hx hb dX2_chooseFrom_64 rfl (lv_at hl 1 rfl) ?_
      refine lv_ishl hx hb dX2_chooseFrom_65 ?_
      refine lv_ior hx hb dX2_chooseFrom_66 ?_
      obtain ⟨b_4, hr⟩ := x_chk hr
      refine va_iast hx hb hK hP hD hS 4 0 rfl rfl b_4 dX2_chooseFrom_67 (fun H locs hP hD hS => ?_)
      have hP : va_P D vwCl [(a_this, .inr (2, [.ref a_after, .ref a_puts, .ref a_choice, .ref a_best, .int x_most, .int x_members, .int x_leeches, .int x_off, .int x_limit])), (a_choice, .inl (c 0, 5, .inl (upd x_choice v1.toNatClampNeg v2))), (a_best, .inl (c 0, 5, .inl x_best)), (a_after, .inl (c 5, 4, .inr (.inr (.inr (.inr xp_after))))), (a_puts, .inl (c 0, 4, .inl (upd x_puts v2.toNatClampNeg ((x_puts v2.toNatClampNeg) ||| (1 <<< (v1 &&& 31)))))), ((a_after_e 0), .inl (c 0, 32, .inl (x_after 0))), ((a_after_e 1), .inl (c 0, 32, .inl (x_after 1))), ((a_after_e 2), .inl (c 0, 32, .inl (x_after 2))), ((a_after_e 3), .inl (c 0, 32, .inl (x_after 3)))] H := hP
      have hD : va_D A [(a_this, .inr (2, [.ref a_after, .ref a_puts, .ref a_choice, .ref a_best, .int x_most, .int x_members, .int x_leeches, .int x_off, .int x_limit])), (a_choice, .inl (c 0, 5, .inl (upd x_choice v1.toNatClampNeg v2))), (a_best, .inl (c 0, 5, .inl x_best)), (a_after, .inl (c 5, 4, .inr (.inr (.inr (.inr xp_after))))), (a_puts, .inl (c 0, 4, .inl (upd x_puts v2.toNatClampNeg ((x_puts v2.toNatClampNeg) ||| (1 <<< (v1 &&& 31)))))), ((a_after_e 0), .inl (c 0, 32, .inl (x_after 0))), ((a_after_e 1), .inl (c 0, 32, .inl (x_after 1))), ((a_after_e 2), .inl (c 0, 32, .inl (x_after 2))), ((a_after_e 3), .inl (c 0, 32, .inl (x_after 3)))] := hD
      refine lv_aload_n hx hb dX2_chooseFrom_68 rfl (lv_at hl 0 rfl) ?_
      refine lv_iload_n hx hb dX2_chooseFrom_69 rfl (lv_at hl 1 rfl) ?_
      refine lv_iconst (v := 1) hx hb dX2_chooseFrom_70 (by decide) ?_
      refine lv_iadd hx hb dX2_chooseFrom_71 ?_
      obtain ⟨⟨q5_0, q5_1, q5_2, q5_3⟩, hc5, hr⟩ := x_bind hr
      try dsimp only at hr
      refine x_runv (wr := []) (wf := [(a_this, .inr (2, [.ref a_after, .ref a_puts, .ref a_choice, .ref a_best, .int q5_1, .int x_members, .int x_leeches, .int x_off, .int x_limit])), (a_choice, .inl (c 0, 5, .inl q5_0)), (a_best, .inl (c 0, 5, .inl q5_2)), (a_after, .inl (c 5, 4, .inr (.inr (.inr (.inr xp_after))))), (a_puts, .inl (c 0, 4, .inl q5_3)), ((a_after_e 0), .inl (c 0, 32, .inl (x_after 0))), ((a_after_e 1), .inl (c 0, 32, .inl (x_after 1))), ((a_after_e 2), .inl (c 0, 32, .inl (x_after 2))), ((a_after_e 3), .inl (c 0, 32, .inl (x_after 3)))]) (x_goV (As := [.int (v1 + 1)]) (rest := []) ⟨hx, hb, hml, hown, hts⟩ (hslf H.size (upd x_choice v1.toNatClampNeg v2) x_most x_best (upd x_puts v2.toNatClampNeg ((x_puts v2.toNatClampNeg) ||| (1 <<< (v1 &&& 31)))) (v1 + 1) _ _ _ _ hc5) (cwV 1 hts gX2_chooseFrom_X2_chooseFrom rfl rfl rfl (by decide +kernel) ⟨by dsimp only; omega, by dsimp only; omega⟩) xV_b hP hD hK [0, 1, 2, 3, 4, 5, 6, 7, 8] rfl (by decide) (fun U hU hW => xV_call hV hS (va_free hD hS hA [0, 1, 2, 3, 4, 5, 6, 7, 8] rfl) hU hW) 0 2 rfl rfl rfl rfl hl.1 rfl (Nat.le_of_ble_eq_true rfl) dX2_chooseFrom_72) hP hD hS hA [0, 1, 2, 3, 4, 5, 6, 7, 8] [] [0, 1, 2, 3, 4, 5, 6, 7, 8] rfl rfl rfl ⟨by decide, by decide, by decide⟩ (fun H locs hP hD hS => ?_)
      refine lv_aload_n hx hb dX2_chooseFrom_75 rfl (lv_at hl 0 rfl) ?_
      refine va_get (D := D) (ci := 2) (v := .ref a_puts) (C := RX2) (T := TX2) (N := 9) hx hb hts inX2_chooseFrom_X2 hown hK hP 0 rfl rfl 1 (by decide) (hts _ lkX2_chooseFrom_f16) (fun _ h9 => h9) rfl dX2_chooseFrom_76 ?_
      refine lv_iload_n hx hb dX2_chooseFrom_79 rfl (lv_at hl 2 rfl) ?_
      refine lv_dup2_11 hx hb dX2_chooseFrom_80 rfl rfl ?_
      obtain ⟨b_6, hr⟩ := x_chk hr
      refine va_iald hx hb hK hP 4 0 rfl rfl b_6 dX2_chooseFrom_81 ?_
      refine lv_iconst (v := 1) hx hb dX2_chooseFrom_82 (by decide) ?_
      refine lv_iload_n hx hb dX2_chooseFrom_83 rfl (lv_at hl 1 rfl) ?_
      refine lv_ishl hx hb dX2_chooseFrom_84 ?_
      refine lv_iconst (v := (-1)) hx hb dX2_chooseFrom_85 (by decide) ?_
      refine lv_ixor hx hb dX2_chooseFrom_86 ?_
      refine lv_iand hx hb dX2_chooseFrom_87 ?_
      obtain ⟨b_7, hr⟩ := x_chk hr
      refine va_iast hx hb hK hP hD hS 4 0 rfl rfl b_7 dX2_chooseFrom_88 (fun H locs hP hD hS => ?_)
      have hP : va_P D vwCl [(a_this, .inr (2, [.ref a_after, .ref a_puts, .ref a_choice, .ref a_best, .int q5_1, .int x_members, .int x_leeches, .int x_off, .int x_limit])), (a_choice, .inl (c 0, 5, .inl q5_0)), (a_best, .inl (c 0, 5, .inl q5_2)), (a_after, .inl (c 5, 4, .inr (.inr (.inr (.inr xp_after))))), (a_puts, .inl (c 0, 4, .inl (upd q5_3 v2.toNatClampNeg ((q5_3 v2.toNatClampNeg) &&& ((1 <<< (v1 &&& 31)) ^^^ (-1)))))), ((a_after_e 0), .inl (c 0, 32, .inl (x_after 0))), ((a_after_e 1), .inl (c 0, 32, .inl (x_after 1))), ((a_after_e 2), .inl (c 0, 32, .inl (x_after 2))), ((a_after_e 3), .inl (c 0, 32, .inl (x_after 3)))] H := hP
      have hD : va_D A [(a_this, .inr (2, [.ref a_after, .ref a_puts, .ref a_choice, .ref a_best, .int q5_1, .int x_members, .int x_leeches, .int x_off, .int x_limit])), (a_choice, .inl (c 0, 5, .inl q5_0)), (a_best, .inl (c 0, 5, .inl q5_2)), (a_after, .inl (c 5, 4, .inr (.inr (.inr (.inr xp_after))))), (a_puts, .inl (c 0, 4, .inl (upd q5_3 v2.toNatClampNeg ((q5_3 v2.toNatClampNeg) &&& ((1 <<< (v1 &&& 31)) ^^^ (-1)))))), ((a_after_e 0), .inl (c 0, 32, .inl (x_after 0))), ((a_after_e 1), .inl (c 0, 32, .inl (x_after 1))), ((a_after_e 2), .inl (c 0, 32, .inl (x_after 2))), ((a_after_e 3), .inl (c 0, 32, .inl (x_after 3)))] := hD
      refine lv_iinc (v := v2 + 1) (lv' := [(2, .int (v2 + 1)), (0, .ref a_this), (1, .int v1)]) hx hb dX2_chooseFrom_89 hl (k := 2) rfl rfl (by decide) rfl (fun ls hl => ?_)
      refine lv_goto (tgt := 41) hx hb dX2_chooseFrom_92 (by decide) ?_
      exact h_41 q5_0 q5_1 q5_2 (upd q5_3 v2.toNatClampNeg ((q5_3 v2.toNatClampNeg) &&& ((1 <<< (v1 &&& 31)) ^^^ (-1)))) v1 (v2 + 1) hr H locs ls hP hD hS (lv_sub hl [1, 2, 0] rfl)
set_option maxHeartbeats 4000000 in
set_option maxRecDepth 100000 in
theorem kX2_chooseFrom_0 {p : Program} {l : Launch} {e : Env} {s : State} {m : MethodId} {args : Array Value} {below : List Frame} {meth : Method} {cd : Code} {D : va_G} {c : Nat → ClassId} {A : Nat → Prop} (E0 : xE p s m args meth cd D (xT c) A RX2 cX2_chooseFrom 3 none wsX2_chooseFrom) (d : Nat) (a_this : Nat) (a_after : Nat) (a_puts : Nat) (a_choice : Nat) (a_best : Nat) (a_after_e : Nat → Nat) (ev : Nat → Nat) (xp_after : Nat → Option Nat) (x_leeches : Int32) (x_off : Int32) (x_members : Int32) (x_after : Nat → Nat → Int32) (x_limit : Int32) (n : Nat) (rm_choice : Nat → Int32) (rm_most : Int32) (rm_best : Nat → Int32) (rm_puts : Nat → Int32) (hp_after : ∀ j, j < 4 → xp_after j = some (a_after_e j)) (hV : xV ev A s) (slf : (Nat → Int32) → Int32 → (Nat → Int32) → (Nat → Int32) → Int32 → Option ((Nat → Int32) × Int32 × (Nat → Int32) × (Nat → Int32))) (hslf : ∀ (sz : Nat) (x_choice : Nat → Int32) (x_most : Int32) (x_best : Nat → Int32) (x_puts : Nat → Int32) (v1 : Int32) (rm_choice : Nat → Int32) (rm_most : Int32) (rm_best : Nat → Int32) (rm_puts : Nat → Int32), slf x_choice x_most x_best x_puts v1 = some (rm_choice, rm_most, rm_best, rm_puts) → Met l yX2_chooseFrom wsX2_chooseFrom ({ frames := 2 + d, cells := 0, slots := 0, locals := 123 + d * 22 } : Room) (xPc D (xT c) sz [.ref a_this, .int v1] (wX2_chooseFrom c a_this a_after a_puts a_choice a_best a_after_e ev xp_after x_leeches x_off x_members x_after x_limit x_choice x_most x_best x_puts) (xV ev (va_A (wX2_chooseFrom c a_this a_after a_puts a_choice a_best a_after_e ev xp_after x_leeches x_off x_members x_after x_limit x_choice x_most x_best x_puts) sz))) (xQv D (xT c) (va_A (wX2_chooseFrom c a_this a_after a_puts a_choice a_best a_after_e ev xp_after x_leeches x_off x_members x_after x_limit x_choice x_most x_best x_puts) sz) (wX2_chooseFrom c a_this a_after a_puts a_choice a_best a_after_e ev xp_after x_leeches x_off x_members x_after x_limit rm_choice rm_most rm_best rm_puts)) 0 0 (va_A (wX2_chooseFrom c a_this a_after a_puts a_choice a_best a_after_e ev xp_after x_leeches x_off x_members x_after x_limit x_choice x_most x_best x_puts) sz)) (x_choice : Nat → Int32) (x_most : Int32) (x_best : Nat → Int32) (x_puts : Nat → Int32) (v1 : Int32) (hr : fX2_chooseFrom_0 n slf x_leeches x_off x_members x_after x_limit x_choice x_most x_best x_puts v1 = some (rm_choice, rm_most, rm_best, rm_puts)) : GX2_chooseFrom p l e s m args below meth cd D c A d a_this a_after a_puts a_choice a_best a_after_e ev xp_after x_leeches x_off x_members x_after x_limit rm_choice rm_most rm_best rm_puts 0 [] [(0, .ref a_this), (1, .int v1)] x_choice x_most x_best x_puts := by
  have E1 := E0
  obtain ⟨hx, hb, hml, hret, hown, hts, hlocks, hA, hK⟩ := E1
  have hVV := hV
  obtain ⟨hn_RX7_9, hn_RX6_17, hn_RX6_24, hn_RX7_18, hn_RX7_25, hn_RX7_45, hn_RX7_52, hn_RX7_65, hn_RX7_70, hn_RX0_31, hn_RX3_53, hn_RX2_57, hn_RX3_65, hn_RX3_86, hz_TAKES, ht_TAKES, hz_HAS_ROOM, ht_HAS_ROOM, hz_SUCH, ht_SUCH, hz_FIRST_FIGURE, ht_FIRST_FIGURE, hz_compact, hz_sioobe, ho_Room, ho_Slate, ho_grid, hstr, hs_0, hs_1, hs_2, hs_3, hs_4, hs_5, hs_6, hs_7, hs_8⟩ := hVV
  intro H locs ls hP hD hS hl
  unfold fX2_chooseFrom_0 at hr
  refine lv_iload_n hx hb dX2_chooseFrom_0 rfl (lv_at hl 1 rfl) ?_
  refine lv_aload_n hx hb dX2_chooseFrom_1 rfl (lv_at hl 0 rfl) ?_
  refine va_get (D := D) (ci := 2) (v := .int x_leeches) (C := RX2) (T := TX2) (N := 9) hx hb hts inX2_chooseFrom_X2 hown hK hP 0 rfl rfl 6 (by decide) (hts _ lkX2_chooseFrom_f36) (fun _ h9 => h9) rfl dX2_chooseFrom_2 ?_
  refine lv_icmp_lt (tgt := 13) hx hb dX2_chooseFrom_5 (by decide) (fun c_1 => ?_) (fun c_1 => ?_)
  · have hr := x_ift hr c_1
    refine lv_aload_n hx hb dX2_chooseFrom_13 rfl (lv_at hl 0 rfl) ?_
    refine va_get (D := D) (ci := 2) (v := .ref a_choice) (C := RX2) (T := TX2) (N := 9) hx hb hts inX2_chooseFrom_X2 hown hK hP 0 rfl rfl 2 (by decide) (hts _ lkX2_chooseFrom_f20) (fun _ h9 => h9) rfl dX2_chooseFrom_14 ?_
    refine lv_iload_n hx hb dX2_chooseFrom_17 rfl (lv_at hl 1 rfl) ?_
    refine lv_iconst (v := (-1)) hx hb dX2_chooseFrom_18 (by decide) ?_
    obtain ⟨b_2, hr⟩ := x_chk hr
    refine va_iast hx hb hK hP hD hS 1 0 rfl rfl b_2 dX2_chooseFrom_19 (fun H locs hP hD hS => ?_)
    have hP : va_P D vwCl [(a_this, .inr (2, [.ref a_after, .ref a_puts, .ref a_choice, .ref a_best, .int x_most, .int x_members, .int x_leeches, .int x_off, .int x_limit])), (a_choice, .inl (c 0, 5, .inl (upd x_choice v1.toNatClampNeg (-1)))), (a_best, .inl (c 0, 5, .inl x_best)), (a_after, .inl (c 5, 4, .inr (.inr (.inr (.inr xp_after))))), (a_puts, .inl (c 0, 4, .inl x_puts)), ((a_after_e 0), .inl (c 0, 32, .inl (x_after 0))), ((a_after_e 1), .inl (c 0, 32, .inl (x_after 1))), ((a_after_e 2), .inl (c 0, 32, .inl (x_after 2))), ((a_after_e 3), .inl (c 0, 32, .inl (x_after 3)))] H := hP
    have hD : va_D A [(a_this, .inr (2, [.ref a_after, .ref a_puts, .ref a_choice, .ref a_best, .int x_most, .int x_members, .int x_leeches, .int x_off, .int x_limit])), (a_choice, .inl (c 0, 5, .inl (upd x_choice v1.toNatClampNeg (-1)))), (a_best, .inl (c 0, 5, .inl x_best)), (a_after, .inl (c 5, 4, .inr (.inr (.inr (.inr xp_after))))), (a_puts, .inl (c 0, 4, .inl x_puts)), ((a_after_e 0), .inl (c 0, 32, .inl (x_after 0))), ((a_after_e 1), .inl (c 0, 32, .inl (x_after 1))), ((a_after_e 2), .inl (c 0, 32, .inl (x_after 2))), ((a_after_e 3), .inl (c 0, 32, .inl (x_after 3)))] := hD
    refine lv_aload_n hx hb dX2_chooseFrom_20 rfl (lv_at hl 0 rfl) ?_
    refine lv_iload_n hx hb dX2_chooseFrom_21 rfl (lv_at hl 1 rfl) ?_
    refine lv_iconst (v := 1) hx hb dX2_chooseFrom_22 (by decide) ?_
    refine lv_iadd hx hb dX2_chooseFrom_23 ?_
    obtain ⟨⟨q3_0, q3_1, q3_2, q3_3⟩, hc3, hr⟩ := x_bind hr
    try dsimp only at hr
    refine x_runv (wr := []) (wf := [(a_this, .inr (2, [.ref a_after, .ref a_puts, .ref a_choice, .ref a_best, .int q3_1, .int x_members, .int x_leeches, .int x_off, .int x_limit])), (a_choice, .inl (c 0, 5, .inl q3_0)), (a_best, .inl (c 0, 5, .inl q3_2)), (a_after, .inl (c 5, 4, .inr (.inr (.inr (.inr xp_after))))), (a_puts, .inl (c 0, 4, .inl q3_3)), ((a_after_e 0), .inl (c 0, 32, .inl (x_after 0))), ((a_after_e 1), .inl (c 0, 32, .inl (x_after 1))), ((a_after_e 2), .inl (c 0, 32, .inl (x_after 2))), ((a_after_e 3), .inl (c 0, 32, .inl (x_after 3)))]) (x_goV (As := [.int (v1 + 1)]) (rest := []) ⟨hx, hb, hml, hown, hts⟩ (hslf H.size (upd x_choice v1.toNatClampNeg (-1)) x_most x_best x_puts (v1 + 1) _ _ _ _ hc3) (cwV 1 hts gX2_chooseFrom_X2_chooseFrom rfl rfl rfl (by decide +kernel) ⟨by dsimp only; omega, by dsimp only; omega⟩) xV_b hP hD hK [0, 1, 2, 3, 4, 5, 6, 7, 8] rfl (by decide) (fun U hU hW => xV_call hV hS (va_free hD hS hA [0, 1, 2, 3, 4, 5, 6, 7, 8] rfl) hU hW) 0 2 rfl rfl rfl rfl hl.1 rfl (Nat.le_of_ble_eq_true rfl) dX2_chooseFrom_24) hP hD hS hA [0, 1, 2, 3, 4, 5, 6, 7, 8] [] [0, 1, 2, 3, 4, 5, 6, 7, 8] rfl rfl rfl ⟨by decide, by decide, by decide⟩ (fun H locs hP hD hS => ?_)
    refine lv_aload_n hx hb dX2_chooseFrom_27 rfl (lv_at hl 0 rfl) ?_
    refine va_get (D := D) (ci := 2) (v := .int x_off) (C := RX2) (T := TX2) (N := 9) hx hb hts inX2_chooseFrom_X2 hown hK hP 0 rfl rfl 7 (by decide) (hts _ lkX2_chooseFrom_f41) (fun _ h9 => h9) rfl dX2_chooseFrom_28 ?_
    refine lv_iload_n hx hb dX2_chooseFrom_31 rfl (lv_at hl 1 rfl) ?_
    obtain ⟨q4_0, hc4, hr⟩ := x_bind hr
    refine x_runi (wr := [(a_this, .inr (2, [.ref a_after, .ref a_puts, .ref a_choice, .ref a_best, .int q3_1, .int x_members, .int x_leeches, .int x_off, .int x_limit])), (a_choice, .inl (c 0, 5, .inl q3_0)), (a_best, .inl (c 0, 5, .inl q3_2)), (a_after, .inl (c 5, 4, .inr (.inr (.inr (.inr xp_after))))), (a_puts, .inl (c 0, 4, .inl q3_3)), ((a_after_e 0), .inl (c 0, 32, .inl (x_after 0))), ((a_after_e 1), .inl (c 0, 32, .inl (x_after 1))), ((a_after_e 2), .inl (c 0, 32, .inl (x_after 2))), ((a_after_e 3), .inl (c 0, 32, .inl (x_after 3)))]) (wf := [(a_this, .inr (2, [.ref a_after, .ref a_puts, .ref a_choice, .ref a_best, .int q3_1, .int x_members, .int x_leeches, .int x_off, .int x_limit])), (a_choice, .inl (c 0, 5, .inl q3_0)), (a_best, .inl (c 0, 5, .inl q3_2)), (a_after, .inl (c 5, 4, .inr (.inr (.inr (.inr xp_after))))), (a_puts, .inl (c 0, 4, .inl q3_3)), ((a_after_e 0), .inl (c 0, 32, .inl (x_after 0))), ((a_after_e 1), .inl (c 0, 32, .inl (x_after 1))), ((a_after_e 2), .inl (c 0, 32, .inl (x_after 2))), ((a_after_e 3), .inl (c 0, 32, .inl (x_after 3)))]) (x_goSN (As := [.int x_off, .int v1]) (rest := []) ⟨hx, hb, hml, hown, hts⟩ (mX7_hasBit l D c H.size x_off v1 n _ hc4) ⟨va_cnB 2 hts gX2_chooseFrom_X7_hasBit_n57 rfl rfl rfl hn_RX2_57 (hts _ lkX2_chooseFrom_iRX7) (by decide +kernel) ⟨by dsimp only; omega, by dsimp only; omega⟩, hts _ lkX2_chooseFrom_sX7_hasBit, trivial⟩ xB_t hP hD hK [] rfl (by decide) (fun _ _ _ => trivial) rfl hl.1 rfl (Nat.le_of_ble_eq_true rfl) dX2_chooseFrom_32) hP hD hS hA [] [0, 1, 2, 3, 4, 5, 6, 7, 8] [0, 1, 2, 3, 4, 5, 6, 7, 8] rfl rfl rfl ⟨by decide, by decide, by decide⟩ (fun H locs hP hD hS => ?_)
    refine lv_if_ne (tgt := 39) hx hb dX2_chooseFrom_35 (by decide) (fun c_5 => ?_) (fun c_5 => ?_)
    · have hr := x_iff hr c_5
      refine lv_iconst (v := 0) hx hb dX2_chooseFrom_39 (by decide) ?_
      refine lv_istore_n (lv' := [(2, .int 0), (0, .ref a_this), (1, .int v1)]) hx hb dX2_chooseFrom_40 rfl hl (by decide) rfl (fun ls hl => ?_)
      exact kX2_chooseFrom_41 E0 d a_this a_after a_puts a_choice a_best a_after_e ev xp_after x_leeches x_off x_members x_after x_limit n rm_choice rm_most rm_best rm_puts hp_after hV slf hslf n q3_0 q3_1 q3_2 q3_3 v1 0 hr H locs ls hP hD hS (lv_sub hl [1, 2, 0] rfl)
    · have hr := x_ift hr c_5
      have g0 := x_some hr
      have e0 := x_p1 g0
      have g1 := x_p2 g0
      have e1 := x_p1 g1
      have g2 := x_p2 g1
      have e2 := x_p1 g2
      have e3 := x_p2 g2
      subst e0
      subst e1
      subst e2
      subst e3
      exact x_retv hx hb hret hlocks hP hD hK hS dX2_chooseFrom_38
  · have hr := x_iff hr c_1
    refine lv_aload_n hx hb dX2_chooseFrom_8 rfl (lv_at hl 0 rfl) ?_
    obtain ⟨⟨q6_0, q6_1⟩, hc6, hr⟩ := x_bind hr
    try dsimp only at hr
    refine x_runv (wr := []) (wf := [(a_this, .inr (2, [.ref a_after, .ref a_puts, .ref a_choice, .ref a_best, .int q6_0, .int x_members, .int x_leeches, .int x_off, .int x_limit])), (a_choice, .inl (c 0, 5, .inl x_choice)), (a_best, .inl (c 0, 5, .inl q6_1)), (a_after, .inl (c 5, 4, .inr (.inr (.inr (.inr xp_after))))), (a_puts, .inl (c 0, 4, .inl x_puts)), ((a_after_e 0), .inl (c 0, 32, .inl (x_after 0))), ((a_after_e 1), .inl (c 0, 32, .inl (x_after 1))), ((a_after_e 2), .inl (c 0, 32, .inl (x_after 2))), ((a_after_e 3), .inl (c 0, 32, .inl (x_after 3)))]) (x_goV (As := []) (rest := []) ⟨hx, hb, hml, hown, hts⟩ (mX2_judge l D c a_this a_after a_puts a_choice a_best a_after_e H.size x_leeches x_off xp_after x_members x_choice x_puts x_after x_limit x_most x_best n _ _ hc6 hp_after) (cwV 0 hts gX2_chooseFrom_X2_judge rfl rfl rfl (by decide +kernel) ⟨by dsimp only; omega, by dsimp only; omega⟩) xB_t hP hD hK [0, 1, 2, 3, 4, 5, 6, 7, 8] rfl (by decide) (fun _ _ _ => trivial) 0 2 rfl rfl rfl rfl hl.1 rfl (Nat.le_of_ble_eq_true rfl) dX2_chooseFrom_9) hP hD hS hA [0, 1, 2, 3, 4, 5, 6, 7, 8] [] [0, 1, 2, 3, 4, 5, 6, 7, 8] rfl rfl rfl ⟨by decide, by decide, by decide⟩ (fun H locs hP hD hS => ?_)
    have g0 := x_some hr
    have e0 := x_p1 g0
    have g1 := x_p2 g0
    have e1 := x_p1 g1
    have g2 := x_p2 g1
    have e2 := x_p1 g2
    have e3 := x_p2 g2
    subst e0
    subst e1
    subst e2
    subst e3
    exact x_retv hx hb hret hlocks hP hD hK hS dX2_chooseFrom_12
set_option maxHeartbeats 4000000 in
set_option maxRecDepth 100000 in
theorem mdX2_chooseFrom (l : Launch) (D : va_G) (c : Nat → ClassId) (a_this : Nat) (a_after : Nat) (a_puts : Nat) (a_choice : Nat) (a_best : Nat) (a_after_e : Nat → Nat) (ev : Nat → Nat) (xp_after : Nat → Option Nat) (x_leeches : Int32) (x_off : Int32) (x_members : Int32) (x_after : Nat → Nat → Int32) (x_limit : Int32) (n : Nat) (hp_after : ∀ j, j < 4 → xp_after j = some (a_after_e j)) : ∀ (d : Nat) (sz : Nat) (x_choice : Nat → Int32) (x_most : Int32) (x_best : Nat → Int32) (x_puts : Nat → Int32) (v1 : Int32) (rm_choice : Nat → Int32) (rm_most : Int32) (rm_best : Nat → Int32) (rm_puts : Nat → Int32) (h : fdX2_chooseFrom n x_leeches x_off x_members x_after x_limit d x_choice x_most x_best x_puts v1 = some (rm_choice, rm_most, rm_best, rm_puts)), Met l yX2_chooseFrom wsX2_chooseFrom ({ frames := 2 + d, cells := 0, slots := 0, locals := 123 + d * 22 } : Room) (xPc D (xT c) sz [.ref a_this, .int v1] (wX2_chooseFrom c a_this a_after a_puts a_choice a_best a_after_e ev xp_after x_leeches x_off x_members x_after x_limit x_choice x_most x_best x_puts) (xV ev (va_A (wX2_chooseFrom c a_this a_after a_puts a_choice a_best a_after_e ev xp_after x_leeches x_off x_members x_after x_limit x_choice x_most x_best x_puts) sz))) (xQv D (xT c) (va_A (wX2_chooseFrom c a_this a_after a_puts a_choice a_best a_after_e ev xp_after x_leeches x_off x_members x_after x_limit x_choice x_most x_best x_puts) sz) (wX2_chooseFrom c a_this a_after a_puts a_choice a_best a_after_e ev xp_after x_leeches x_off x_members x_after x_limit rm_choice rm_most rm_best rm_puts)) 0 0 (va_A (wX2_chooseFrom c a_this a_after a_puts a_choice a_best a_after_e ev xp_after x_leeches x_off x_members x_after x_limit x_choice x_most x_best x_puts) sz) := by
  intro d
  induction d with
  | zero => intro sz x_choice x_most x_best x_puts v1 rm_choice rm_most rm_best rm_puts h; cases h
  | succ d ih =>
    intro sz x_choice x_most x_best x_puts v1 rm_choice rm_most rm_best rm_puts h
    refine Met.ofW (cc := cX2_chooseFrom) (maxL := 3) (ret := none) (by decide) rfl ?_
    intro p e s m args below meth cd s₁ B hml hv
    obtain ⟨rfl, hsz, hP, hK, hD0, hV⟩ := hv
    subst hsz
    have hl := lv_entry [.ref a_this, .int v1] (n := 3) (Nat.le_of_ble_eq_true rfl)
    rw [lg_entry_eq]
    exact kX2_chooseFrom_0 (A := va_A (wX2_chooseFrom c a_this a_after a_puts a_choice a_best a_after_e ev xp_after x_leeches x_off x_members x_after x_limit x_choice x_most x_best x_puts) s.heap.size) ⟨B.exec, B.bytes, hml, B.returns, findClass_of_methodNamed B.named, atoms_spec (ws := wsX2_chooseFrom) B.pre, B.notSynchronized, fun q h => Or.inr h, hK⟩ d a_this a_after a_puts a_choice a_best a_after_e ev xp_after x_leeches x_off x_members x_after x_limit n rm_choice rm_most rm_best rm_puts hp_after hV (fdX2_chooseFrom n x_leeches x_off x_members x_after x_limit d) ih x_choice x_most x_best x_puts v1 h s.heap [] _ hP hD0.self va_S.rf hl
theorem mX2_chooseFrom (l : Launch) (D : va_G) (c : Nat → ClassId) (a_this : Nat) (a_after : Nat) (a_puts : Nat) (a_choice : Nat) (a_best : Nat) (a_after_e : Nat → Nat) (ev : Nat → Nat) (sz : Nat) (xp_after : Nat → Option Nat) (x_leeches : Int32) (x_off : Int32) (x_members : Int32) (x_after : Nat → Nat → Int32) (x_limit : Int32) (x_choice : Nat → Int32) (x_most : Int32) (x_best : Nat → Int32) (x_puts : Nat → Int32) (v1 : Int32) (n : Nat) (rm_choice : Nat → Int32) (rm_most : Int32) (rm_best : Nat → Int32) (rm_puts : Nat → Int32) (h : fX2_chooseFrom n x_leeches x_off x_members x_after x_limit x_choice x_most x_best x_puts v1 = some (rm_choice, rm_most, rm_best, rm_puts)) (hp_after : ∀ j, j < 4 → xp_after j = some (a_after_e j)) : Met l yX2_chooseFrom wsX2_chooseFrom ({ frames := 2 + 8, cells := 0, slots := 0, locals := 123 + 8 * 22 } : Room) (xPc D (xT c) sz [.ref a_this, .int v1] (wX2_chooseFrom c a_this a_after a_puts a_choice a_best a_after_e ev xp_after x_leeches x_off x_members x_after x_limit x_choice x_most x_best x_puts) (xV ev (va_A (wX2_chooseFrom c a_this a_after a_puts a_choice a_best a_after_e ev xp_after x_leeches x_off x_members x_after x_limit x_choice x_most x_best x_puts) sz))) (xQv D (xT c) (va_A (wX2_chooseFrom c a_this a_after a_puts a_choice a_best a_after_e ev xp_after x_leeches x_off x_members x_after x_limit x_choice x_most x_best x_puts) sz) (wX2_chooseFrom c a_this a_after a_puts a_choice a_best a_after_e ev xp_after x_leeches x_off x_members x_after x_limit rm_choice rm_most rm_best rm_puts)) 0 0 (va_A (wX2_chooseFrom c a_this a_after a_puts a_choice a_best a_after_e ev xp_after x_leeches x_off x_members x_after x_limit x_choice x_most x_best x_puts) sz) := mdX2_chooseFrom l D c a_this a_after a_puts a_choice a_best a_after_e ev xp_after x_leeches x_off x_members x_after x_limit n hp_after 8 sz x_choice x_most x_best x_puts v1 rm_choice rm_most rm_best rm_puts h

abbrev wX2_choose (c : Nat → ClassId) (a_this : Nat) (a_after : Nat) (a_puts : Nat) (a_choice : Nat) (a_best : Nat) (a_after_e : Nat → Nat) (ev : Nat → Nat) (xp_after : Nat → Option Nat) (x_leeches : Int32) (x_off : Int32) (x_members : Int32) (x_after : Nat → Nat → Int32) (x_limit : Int32) (x_choice : Nat → Int32) (x_most : Int32) (x_best : Nat → Int32) (x_puts : Nat → Int32) : va_W := [(a_this, .inr (2, [.ref a_after, .ref a_puts, .ref a_choice, .ref a_best, .int x_most, .int x_members, .int x_leeches, .int x_off, .int x_limit])), (a_choice, .inl (c 0, 5, .inl x_choice)), (a_best, .inl (c 0, 5, .inl x_best)), (a_after, .inl (c 5, 4, .inr (.inr (.inr (.inr xp_after))))), (a_puts, .inl (c 0, 4, .inl x_puts)), ((a_after_e 0), .inl (c 0, 32, .inl (x_after 0))), ((a_after_e 1), .inl (c 0, 32, .inl (x_after 1))), ((a_after_e 2), .inl (c 0, 32, .inl (x_after 2))), ((a_after_e 3), .inl (c 0, 32, .inl (x_after 3)))]
def GX2_choose (p : Program) (l : Launch) (e : Env) (s : State) (m : MethodId) (args : Array Value) (below : List Frame) (meth : Method) (cd : Code) (D : va_G) (c : Nat → ClassId) (A : Nat → Prop) (a_this : Nat) (a_after : Nat) (a_puts : Nat) (a_choice : Nat) (a_best : Nat) (a_after_e : Nat → Nat) (ev : Nat → Nat) (xp_after : Nat → Option Nat) (x_leeches : Int32) (x_off : Int32) (x_members : Int32) (x_after : Nat → Nat → Int32) (x_limit : Int32) (rm_choice : Nat → Int32) (rm_most : Int32) (rm_best : Nat → Int32) (rm_puts : Nat → Int32) (pc : Nat) (st : List Value) (loc : List (Nat × Value)) (x_choice : Nat → Int32) (x_most : Int32) (x_best : Nat → Int32) (x_puts : Nat → Int32) : Prop :=
  ∀ (H : Heap) (locs : List Loc) (ls : Array Slot), va_P D vwCl (wX2_choose c a_this a_after a_puts a_choice a_best a_after_e ev xp_after x_leeches x_off x_members x_after x_limit x_choice x_most x_best x_puts) H → va_D A (wX2_choose c a_this a_after a_puts a_choice a_best a_after_e ev xp_after x_leeches x_off x_members x_after x_limit x_choice x_most x_best x_puts) → va_S A s.heap H locs → lv_has ls 1 loc → W p l e ({ frames := 11, cells := 0, slots := 0, locals := 321 } : Room) s m args below meth cd H locs 0 0 (MQ below (xQv D (xT c) A (wX2_choose c a_this a_after a_puts a_choice a_best a_after_e ev xp_after x_leeches x_off x_members x_after x_limit rm_choice rm_most rm_best rm_puts)) args s 0 0 A) (F0 m pc ls st)
set_option maxHeartbeats 4000000 in
set_option maxRecDepth 100000 in
theorem kX2_choose_0 {p : Program} {l : Launch} {e : Env} {s : State} {m : MethodId} {args : Array Value} {below : List Frame} {meth : Method} {cd : Code} {D : va_G} {c : Nat → ClassId} {A : Nat → Prop} (E0 : xE p s m args meth cd D (xT c) A RX2 cX2_choose 1 none wsX2_choose) (a_this : Nat) (a_after : Nat) (a_puts : Nat) (a_choice : Nat) (a_best : Nat) (a_after_e : Nat → Nat) (ev : Nat → Nat) (xp_after : Nat → Option Nat) (x_leeches : Int32) (x_off : Int32) (x_members : Int32) (x_after : Nat → Nat → Int32) (x_limit : Int32) (n : Nat) (rm_choice : Nat → Int32) (rm_most : Int32) (rm_best : Nat → Int32) (rm_puts : Nat → Int32) (hp_after : ∀ j, j < 4 → xp_after j = some (a_after_e j)) (hV : xV ev A s) (x_choice : Nat → Int32) (x_most : Int32) (x_best : Nat → Int32) (x_puts : Nat → Int32) (hr : fX2_choose n x_leeches x_off x_members x_after x_limit x_choice x_most x_best x_puts = some (rm_choice, rm_most, rm_best, rm_puts)) : GX2_choose p l e s m args below meth cd D c A a_this a_after a_puts a_choice a_best a_after_e ev xp_after x_leeches x_off x_members x_after x_limit rm_choice rm_most rm_best rm_puts 0 [] [(0, .ref a_this)] x_choice x_most x_best x_puts := by
  have E1 := E0
  obtain ⟨hx, hb, hml, hret, hown, hts, hlocks, hA, hK⟩ := E1
  have hVV := hV
  obtain ⟨hn_RX7_9, hn_RX6_17, hn_RX6_24, hn_RX7_18, hn_RX7_25, hn_RX7_45, hn_RX7_52, hn_RX7_65, hn_RX7_70, hn_RX0_31, hn_RX3_53, hn_RX2_57, hn_RX3_65, hn_RX3_86, hz_TAKES, ht_TAKES, hz_HAS_ROOM, ht_HAS_ROOM, hz_SUCH, ht_SUCH, hz_FIRST_FIGURE, ht_FIRST_FIGURE, hz_compact, hz_sioobe, ho_Room, ho_Slate, ho_grid, hstr, hs_0, hs_1, hs_2, hs_3, hs_4, hs_5, hs_6, hs_7, hs_8⟩ := hVV
  intro H locs ls hP hD hS hl
  unfold fX2_choose at hr
  refine lv_aload_n hx hb dX2_choose_0 rfl (lv_at hl 0 rfl) ?_
  refine lv_iconst (v := 0) hx hb dX2_choose_1 (by decide) ?_
  obtain ⟨⟨q1_0, q1_1, q1_2, q1_3⟩, hc1, hr⟩ := x_bind hr
  try dsimp only at hr
  refine x_runv (wr := []) (wf := [(a_this, .inr (2, [.ref a_after, .ref a_puts, .ref a_choice, .ref a_best, .int q1_1, .int x_members, .int x_leeches, .int x_off, .int x_limit])), (a_choice, .inl (c 0, 5, .inl q1_0)), (a_best, .inl (c 0, 5, .inl q1_2)), (a_after, .inl (c 5, 4, .inr (.inr (.inr (.inr xp_after))))), (a_puts, .inl (c 0, 4, .inl q1_3)), ((a_after_e 0), .inl (c 0, 32, .inl (x_after 0))), ((a_after_e 1), .inl (c 0, 32, .inl (x_after 1))), ((a_after_e 2), .inl (c 0, 32, .inl (x_after 2))), ((a_after_e 3), .inl (c 0, 32, .inl (x_after 3)))]) (x_goV (As := [.int 0]) (rest := []) ⟨hx, hb, hml, hown, hts⟩ (mX2_chooseFrom l D c a_this a_after a_puts a_choice a_best a_after_e ev H.size xp_after x_leeches x_off x_members x_after x_limit x_choice x_most x_best x_puts 0 n _ _ _ _ hc1 hp_after) (cwV 1 hts gX2_choose_X2_chooseFrom rfl rfl rfl (by decide +kernel) ⟨Nat.le_of_ble_eq_true rfl, Nat.le_of_ble_eq_true rfl⟩) xV_b hP hD hK [0, 1, 2, 3, 4, 5, 6, 7, 8] rfl (by decide) (fun U hU hW => xV_call hV hS (va_free hD hS hA [0, 1, 2, 3, 4, 5, 6, 7, 8] rfl) hU hW) 0 2 rfl rfl rfl rfl hl.1 rfl (Nat.le_of_ble_eq_true rfl) dX2_choose_2) hP hD hS hA [0, 1, 2, 3, 4, 5, 6, 7, 8] [] [0, 1, 2, 3, 4, 5, 6, 7, 8] rfl rfl rfl ⟨by decide, by decide, by decide⟩ (fun H locs hP hD hS => ?_)
  have g0 := x_some hr
  have e0 := x_p1 g0
  have g1 := x_p2 g0
  have e1 := x_p1 g1
  have g2 := x_p2 g1
  have e2 := x_p1 g2
  have e3 := x_p2 g2
  subst e0
  subst e1
  subst e2
  subst e3
  exact x_retv hx hb hret hlocks hP hD hK hS dX2_choose_5
set_option maxHeartbeats 4000000 in
set_option maxRecDepth 100000 in
theorem mX2_choose (l : Launch) (D : va_G) (c : Nat → ClassId) (a_this : Nat) (a_after : Nat) (a_puts : Nat) (a_choice : Nat) (a_best : Nat) (a_after_e : Nat → Nat) (ev : Nat → Nat) (sz : Nat) (xp_after : Nat → Option Nat) (x_leeches : Int32) (x_off : Int32) (x_members : Int32) (x_after : Nat → Nat → Int32) (x_limit : Int32) (x_choice : Nat → Int32) (x_most : Int32) (x_best : Nat → Int32) (x_puts : Nat → Int32) (n : Nat) (rm_choice : Nat → Int32) (rm_most : Int32) (rm_best : Nat → Int32) (rm_puts : Nat → Int32) (h : fX2_choose n x_leeches x_off x_members x_after x_limit x_choice x_most x_best x_puts = some (rm_choice, rm_most, rm_best, rm_puts)) (hp_after : ∀ j, j < 4 → xp_after j = some (a_after_e j)) : Met l yX2_choose wsX2_choose ({ frames := 11, cells := 0, slots := 0, locals := 321 } : Room) (xPc D (xT c) sz [.ref a_this] (wX2_choose c a_this a_after a_puts a_choice a_best a_after_e ev xp_after x_leeches x_off x_members x_after x_limit x_choice x_most x_best x_puts) (xV ev (va_A (wX2_choose c a_this a_after a_puts a_choice a_best a_after_e ev xp_after x_leeches x_off x_members x_after x_limit x_choice x_most x_best x_puts) sz))) (xQv D (xT c) (va_A (wX2_choose c a_this a_after a_puts a_choice a_best a_after_e ev xp_after x_leeches x_off x_members x_after x_limit x_choice x_most x_best x_puts) sz) (wX2_choose c a_this a_after a_puts a_choice a_best a_after_e ev xp_after x_leeches x_off x_members x_after x_limit rm_choice rm_most rm_best rm_puts)) 0 0 (va_A (wX2_choose c a_this a_after a_puts a_choice a_best a_after_e ev xp_after x_leeches x_off x_members x_after x_limit x_choice x_most x_best x_puts) sz) := by
  refine Met.ofW (cc := cX2_choose) (maxL := 1) (ret := none) (by decide) rfl ?_
  intro p e s m args below meth cd s₁ B hml hv
  obtain ⟨rfl, hsz, hP, hK, hD0, hV⟩ := hv
  subst hsz
  have hl := lv_entry [.ref a_this] (n := 1) (Nat.le_of_ble_eq_true rfl)
  rw [lg_entry_eq]
  exact kX2_choose_0 (A := va_A (wX2_choose c a_this a_after a_puts a_choice a_best a_after_e ev xp_after x_leeches x_off x_members x_after x_limit x_choice x_most x_best x_puts) s.heap.size) ⟨B.exec, B.bytes, hml, B.returns, findClass_of_methodNamed B.named, atoms_spec (ws := wsX2_choose) B.pre, B.notSynchronized, fun q h => Or.inr h, hK⟩ a_this a_after a_puts a_choice a_best a_after_e ev xp_after x_leeches x_off x_members x_after x_limit n rm_choice rm_most rm_best rm_puts hp_after hV x_choice x_most x_best x_puts h s.heap [] _ hP hD0.self va_S.rf hl

abbrev wX3_setEmpty (c : Nat → ClassId) (a_this : Nat) (a_knows : Nat) (a_kind : Nat) (a_on : Nat) (a_has : Nat) (x_members : Int32) (x_leeches : Int32) (x_basin : Int32) (x_minute : Int32) : va_W := [(a_this, .inr (3, [.int x_members, .int x_leeches, .int x_basin, .int x_minute, .ref a_knows, .ref a_kind, .ref a_on, .ref a_has]))]
def GX3_setEmpty (p : Program) (l : Launch) (e : Env) (s : State) (m : MethodId) (args : Array Value) (below : List Frame) (meth : Method) (cd : Code) (D : va_G) (c : Nat → ClassId) (A : Nat → Prop) (a_this : Nat) (a_knows : Nat) (a_kind : Nat) (a_on : Nat) (a_has : Nat) (rm_members : Int32) (rm_leeches : Int32) (rm_basin : Int32) (rm_minute : Int32) (pc : Nat) (st : List Value) (loc : List (Nat × Value)) (x_members : Int32) (x_leeches : Int32) (x_basin : Int32) (x_minute : Int32) : Prop :=
  ∀ (H : Heap) (locs : List Loc) (ls : Array Slot), va_P D vwCl (wX3_setEmpty c a_this a_knows a_kind a_on a_has x_members x_leeches x_basin x_minute) H → va_D A (wX3_setEmpty c a_this a_knows a_kind a_on a_has x_members x_leeches x_basin x_minute) → va_S A s.heap H locs → lv_has ls 1 loc → W p l e ({ frames := 0, cells := 0, slots := 0, locals := 0 } : Room) s m args below meth cd H locs 0 0 (MQ below (xQv D (xT c) A (wX3_setEmpty c a_this a_knows a_kind a_on a_has rm_members rm_leeches rm_basin rm_minute)) args s 0 0 A) (F0 m pc ls st)
theorem lkX3_setEmpty_f24 : Cond.fieldLink RX3 24 "LeechClub$Room" "members" "I" ∈ wsX3_setEmpty := by decide +kernel
theorem lkX3_setEmpty_f28 : Cond.fieldLink RX3 28 "LeechClub$Room" "leeches" "I" ∈ wsX3_setEmpty := by decide +kernel
theorem lkX3_setEmpty_f31 : Cond.fieldLink RX3 31 "LeechClub$Room" "basin" "I" ∈ wsX3_setEmpty := by decide +kernel
theorem lkX3_setEmpty_f34 : Cond.fieldLink RX3 34 "LeechClub$Room" "minute" "I" ∈ wsX3_setEmpty := by decide +kernel
theorem inX3_setEmpty_X3 : ∀ w ∈ wsX30, w ∈ wsX3_setEmpty := by decide +kernel
set_option maxHeartbeats 4000000 in
set_option maxRecDepth 100000 in
theorem kX3_setEmpty_0 {p : Program} {l : Launch} {e : Env} {s : State} {m : MethodId} {args : Array Value} {below : List Frame} {meth : Method} {cd : Code} {D : va_G} {c : Nat → ClassId} {A : Nat → Prop} (E0 : xE p s m args meth cd D (xT c) A RX3 cX3_setEmpty 1 none wsX3_setEmpty) (a_this : Nat) (a_knows : Nat) (a_kind : Nat) (a_on : Nat) (a_has : Nat) (n : Nat) (rm_members : Int32) (rm_leeches : Int32) (rm_basin : Int32) (rm_minute : Int32) (x_members : Int32) (x_leeches : Int32) (x_basin : Int32) (x_minute : Int32) (hr : fX3_setEmpty n x_members x_leeches x_basin x_minute = some (rm_members, rm_leeches, rm_basin, rm_minute)) : GX3_setEmpty p l e s m args below meth cd D c A a_this a_knows a_kind a_on a_has rm_members rm_leeches rm_basin rm_minute 0 [] [(0, .ref a_this)] x_members x_leeches x_basin x_minute := by
  have E1 := E0
  obtain ⟨hx, hb, hml, hret, hown, hts, hlocks, hA, hK⟩ := E1
  intro H locs ls hP hD hS hl
  unfold fX3_setEmpty at hr
  refine lv_aload_n hx hb dX3_setEmpty_0 rfl (lv_at hl 0 rfl) ?_
  refine lv_iconst (v := 0) hx hb dX3_setEmpty_1 (by decide) ?_
  refine va_put (D := D) (ci := 3) (v := .int 0) (ty := .int) (C := RX3) (T := TX3) (N := 8) hx hb hts inX3_setEmpty_X3 tyX3 tyX3_ok nmX3 hown hK hP hD hS 0 rfl rfl 0 (by decide) (hts _ lkX3_setEmpty_f24) (fun _ h9 => h9) rfl (by decide +kernel) rfl rfl (Nat.le_of_ble_eq_true rfl) dX3_setEmpty_2 (fun H locs hP hD hS => ?_)
  have hP : va_P D vwCl [(a_this, .inr (3, [.int 0, .int x_leeches, .int x_basin, .int x_minute, .ref a_knows, .ref a_kind, .ref a_on, .ref a_has]))] H := hP
  have hD : va_D A [(a_this, .inr (3, [.int 0, .int x_leeches, .int x_basin, .int x_minute, .ref a_knows, .ref a_kind, .ref a_on, .ref a_has]))] := hD
  refine lv_aload_n hx hb dX3_setEmpty_5 rfl (lv_at hl 0 rfl) ?_
  refine lv_iconst (v := 0) hx hb dX3_setEmpty_6 (by decide) ?_
  refine va_put (D := D) (ci := 3) (v := .int 0) (ty := .int) (C := RX3) (T := TX3) (N := 8) hx hb hts inX3_setEmpty_X3 tyX3 tyX3_ok nmX3 hown hK hP hD hS 0 rfl rfl 1 (by decide) (hts _ lkX3_setEmpty_f28) (fun _ h9 => h9) rfl (by decide +kernel) rfl rfl (Nat.le_of_ble_eq_true rfl) dX3_setEmpty_7 (fun H locs hP hD hS => ?_)
  have hP : va_P D vwCl [(a_this, .inr (3, [.int 0, .int 0, .int x_basin, .int x_minute, .ref a_knows, .ref a_kind, .ref a_on, .ref a_has]))] H := hP
  have hD : va_D A [(a_this, .inr (3, [.int 0, .int 0, .int x_basin, .int x_minute, .ref a_knows, .ref a_kind, .ref a_on, .ref a_has]))] := hD
  refine lv_aload_n hx hb dX3_setEmpty_10 rfl (lv_at hl 0 rfl) ?_
  refine lv_iconst (v := 0) hx hb dX3_setEmpty_11 (by decide) ?_
  refine va_put (D := D) (ci := 3) (v := .int 0) (ty := .int) (C := RX3) (T := TX3) (N := 8) hx hb hts inX3_setEmpty_X3 tyX3 tyX3_ok nmX3 hown hK hP hD hS 0 rfl rfl 2 (by decide) (hts _ lkX3_setEmpty_f31) (fun _ h9 => h9) rfl (by decide +kernel) rfl rfl (Nat.le_of_ble_eq_true rfl) dX3_setEmpty_12 (fun H locs hP hD hS => ?_)
  have hP : va_P D vwCl [(a_this, .inr (3, [.int 0, .int 0, .int 0, .int x_minute, .ref a_knows, .ref a_kind, .ref a_on, .ref a_has]))] H := hP
  have hD : va_D A [(a_this, .inr (3, [.int 0, .int 0, .int 0, .int x_minute, .ref a_knows, .ref a_kind, .ref a_on, .ref a_has]))] := hD
  refine lv_aload_n hx hb dX3_setEmpty_15 rfl (lv_at hl 0 rfl) ?_
  refine lv_iconst (v := 0) hx hb dX3_setEmpty_16 (by decide) ?_
  refine va_put (D := D) (ci := 3) (v := .int 0) (ty := .int) (C := RX3) (T := TX3) (N := 8) hx hb hts inX3_setEmpty_X3 tyX3 tyX3_ok nmX3 hown hK hP hD hS 0 rfl rfl 3 (by decide) (hts _ lkX3_setEmpty_f34) (fun _ h9 => h9) rfl (by decide +kernel) rfl rfl (Nat.le_of_ble_eq_true rfl) dX3_setEmpty_17 (fun H locs hP hD hS => ?_)
  have hP : va_P D vwCl [(a_this, .inr (3, [.int 0, .int 0, .int 0, .int 0, .ref a_knows, .ref a_kind, .ref a_on, .ref a_has]))] H := hP
  have hD : va_D A [(a_this, .inr (3, [.int 0, .int 0, .int 0, .int 0, .ref a_knows, .ref a_kind, .ref a_on, .ref a_has]))] := hD
  have g0 := x_some hr
  have e0 := x_p1 g0
  have g1 := x_p2 g0
  have e1 := x_p1 g1
  have g2 := x_p2 g1
  have e2 := x_p1 g2
  have e3 := x_p2 g2
  subst e0
  subst e1
  subst e2
  subst e3
  exact x_retv hx hb hret hlocks hP hD hK hS dX3_setEmpty_20
set_option maxHeartbeats 4000000 in
set_option maxRecDepth 100000 in
theorem mX3_setEmpty (l : Launch) (D : va_G) (c : Nat → ClassId) (a_this : Nat) (a_knows : Nat) (a_kind : Nat) (a_on : Nat) (a_has : Nat) (sz : Nat) (x_members : Int32) (x_leeches : Int32) (x_basin : Int32) (x_minute : Int32) (n : Nat) (rm_members : Int32) (rm_leeches : Int32) (rm_basin : Int32) (rm_minute : Int32) (h : fX3_setEmpty n x_members x_leeches x_basin x_minute = some (rm_members, rm_leeches, rm_basin, rm_minute)) : Met l yX3_setEmpty wsX3_setEmpty ({ frames := 0, cells := 0, slots := 0, locals := 0 } : Room) (xPc D (xT c) sz [.ref a_this] (wX3_setEmpty c a_this a_knows a_kind a_on a_has x_members x_leeches x_basin x_minute) (fun _ => True)) (xQv D (xT c) (va_A (wX3_setEmpty c a_this a_knows a_kind a_on a_has x_members x_leeches x_basin x_minute) sz) (wX3_setEmpty c a_this a_knows a_kind a_on a_has rm_members rm_leeches rm_basin rm_minute)) 0 0 (va_A (wX3_setEmpty c a_this a_knows a_kind a_on a_has x_members x_leeches x_basin x_minute) sz) := by
  refine Met.ofW (cc := cX3_setEmpty) (maxL := 1) (ret := none) (by decide) rfl ?_
  intro p e s m args below meth cd s₁ B hml hv
  obtain ⟨rfl, hsz, hP, hK, hD0, hV⟩ := hv
  subst hsz
  have hl := lv_entry [.ref a_this] (n := 1) (Nat.le_of_ble_eq_true rfl)
  rw [lg_entry_eq]
  exact kX3_setEmpty_0 (A := va_A (wX3_setEmpty c a_this a_knows a_kind a_on a_has x_members x_leeches x_basin x_minute) s.heap.size) ⟨B.exec, B.bytes, hml, B.returns, findClass_of_methodNamed B.named, atoms_spec (ws := wsX3_setEmpty) B.pre, B.notSynchronized, fun q h => Or.inr h, hK⟩ a_this a_knows a_kind a_on a_has n rm_members rm_leeches rm_basin rm_minute x_members x_leeches x_basin x_minute h s.heap [] _ hP hD0.self va_S.rf hl

