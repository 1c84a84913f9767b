def xt_TAKES (j : Nat) : Int32 := ([1, 2, 3, 1, 1] : List Int32).getD j 0
def xt_HAS_ROOM (j : Nat) : Int32 := ([3, 6, 9, 2, 99] : List Int32).getD j 0
def xt_SUCH (j : Nat) : Int32 := ([31, 7, 6, 4, 24, 16] : List Int32).getD j 0
def xt_FIRST_FIGURE (j : Nat) : Int32 := ([0, 1, 10, 100] : List Int32).getD j 0
def xs_lens : List Nat := [4, 4, 6, 2, 6, 7, 6, 6, 4]
def xs_byts : List (List Int32) := [[99, 108, 117, 98], [102, 97, 99, 116], [109, 101, 109, 98, 101, 114], [111, 110], [99, 111, 109, 109, 111, 110], [115, 116, 114, 105, 112, 101, 100], [103, 114, 101, 101, 100, 121], [98, 105, 115, 104, 111, 112], [109, 117, 102, 102]]
def xs_len (i : Nat) : Nat := xs_lens.getD i 0
def xs_ch (i j : Nat) : Int32 := (xs_byts.getD i []).getD j 0
/-- what the machine has beside the worlds: links of nest mates, tables, texts -/
def xV (ev : Nat → Nat) (A : Nat → Prop) (U : State) : Prop :=
  va_Nw (.methodLinkNest RX7 9 yX6_init "LeechClub") U ∧
  va_Nw (.methodLinkNest RX6 17 yX0_init "LeechClub") U ∧
  va_Nw (.methodLinkNest RX6 24 yX3_init "LeechClub") U ∧
  va_Nw (.methodLinkNest RX7 18 yX0_init "LeechClub") U ∧
  va_Nw (.methodLinkNest RX7 25 yX3_init "LeechClub") U ∧
  va_Nw (.methodLinkNest RX7 45 yX4_init "LeechClub") U ∧
  va_Nw (.methodLinkNest RX7 52 yX2_init "LeechClub") U ∧
  va_Nw (.methodLinkNest RX7 65 yX1_init "LeechClub") U ∧
  va_Nw (.methodLinkNest RX7 70 yX5_init "LeechClub") U ∧
  va_Nw (.methodLinkNest RX0 31 yX7_hasBit "LeechClub") U ∧
  va_Nw (.methodLinkNest RX3 53 yX7_hasBit "LeechClub") U ∧
  va_Nw (.methodLinkNest RX2 57 yX7_hasBit "LeechClub") U ∧
  va_Nw (.fieldLinkNest RX3 65 "LeechClub" "TAKES" "[I" "LeechClub") U ∧
  va_Nw (.fieldLinkNest RX3 86 "LeechClub" "HAS_ROOM" "[I" "LeechClub") U ∧
  va_Z "LeechClub" "TAKES" "[I" (.ref (ev 0)) A U U.heap ∧
  va_T .int (ev 0) 5 (fun j => .int (xt_TAKES j)) A U U.heap ∧
  va_Z "LeechClub" "HAS_ROOM" "[I" (.ref (ev 1)) A U U.heap ∧
  va_T .int (ev 1) 5 (fun j => .int (xt_HAS_ROOM j)) A U U.heap ∧
  va_Z "LeechClub" "SUCH" "[I" (.ref (ev 2)) A U U.heap ∧
  va_T .int (ev 2) 6 (fun j => .int (xt_SUCH j)) A U U.heap ∧
  va_Z "LeechClub" "FIRST_FIGURE" "[I" (.ref (ev 3)) A U U.heap ∧
  va_T .int (ev 3) 4 (fun j => .int (xt_FIRST_FIGURE j)) A U U.heap ∧
  va_Z "java/lang/String" "COMPACT_STRINGS" "Z" (.int 1) A U U.heap ∧
  va_Zq "jdk/internal/util/Preconditions" "SIOOBE_FORMATTER" "Ljava/util/function/BiFunction;" A U U.heap ∧
  va_AO "LeechClub$Room" U ∧
  va_AO "LeechClub$Slate" U ∧
  va_AOA .int U ∧
  vk_S 9 xs_lens xs_byts (fun i => ev (10 + i)) (fun i => ev (30 + i)) A U U.heap ∧
  vk_R "LeechClub$Text" 72 "club" (ev (10 + 0)) U ∧
  vk_R "LeechClub$Text" 84 "fact" (ev (10 + 1)) U ∧
  vk_R "LeechClub$Text" 89 "member" (ev (10 + 2)) U ∧
  vk_R "LeechClub$Text" 94 "on" (ev (10 + 3)) U ∧
  vk_R "LeechClub$Text" 133 "common" (ev (10 + 4)) U ∧
  vk_R "LeechClub$Text" 135 "striped" (ev (10 + 5)) U ∧
  vk_R "LeechClub$Text" 137 "greedy" (ev (10 + 6)) U ∧
  vk_R "LeechClub$Text" 139 "bishop" (ev (10 + 7)) U ∧
  vk_R "LeechClub$Text" 141 "muff" (ev (10 + 8)) U
theorem xV_b {ev : Nat → Nat} {A : Nat → Prop} : xB (xV ev A) := fun a U g mk h => by
  obtain ⟨h0, h1, h2, h3, h4, h5, h6, h7, h8, h9, h10, h11, h12, h13, h14, h15, h16, h17, h18, h19, h20, h21, h22, h23, h24, h25, h26, h27, h28, h29, h30, h31, h32, h33, h34, h35, h36⟩ := h
  exact ⟨va_Nw.same rfl rfl h0, va_Nw.same rfl rfl h1, va_Nw.same rfl rfl h2, va_Nw.same rfl rfl h3, va_Nw.same rfl rfl h4, va_Nw.same rfl rfl h5, va_Nw.same rfl rfl h6, va_Nw.same rfl rfl h7, va_Nw.same rfl rfl h8, va_Nw.same rfl rfl h9, va_Nw.same rfl rfl h10, va_Nw.same rfl rfl h11, va_Nw.same rfl rfl h12, va_Nw.same rfl rfl h13, va_Z.moved (Vm.Alike.refl U.vm) h14, va_T.moved (Vm.Alike.refl U.vm) h15, va_Z.moved (Vm.Alike.refl U.vm) h16, va_T.moved (Vm.Alike.refl U.vm) h17, va_Z.moved (Vm.Alike.refl U.vm) h18, va_T.moved (Vm.Alike.refl U.vm) h19, va_Z.moved (Vm.Alike.refl U.vm) h20, va_T.moved (Vm.Alike.refl U.vm) h21, va_Z.moved (Vm.Alike.refl U.vm) h22, va_Zq.moved (Vm.Alike.refl U.vm) h23, va_AO.moved (Vm.Alike.refl U.vm) h24, va_AO.moved (Vm.Alike.refl U.vm) h25, x_aoa_moved (Vm.Alike.refl U.vm) h26, vk_S.moved (Vm.Alike.refl U.vm) h27, vk_R.same rfl h28, vk_R.same rfl h29, vk_R.same rfl h30, vk_R.same rfl h31, vk_R.same rfl h32, vk_R.same rfl h33, vk_R.same rfl h34, vk_R.same rfl h35, vk_R.same rfl h36⟩
theorem xV_call {ev : Nat → Nat} {A B : Nat → Prop} {s U : State} {H : Heap} {locs : List Loc} (h : xV ev A s) (hS : va_S A s.heap H locs) (hF : ∀ q, B q → A q) (hU : U.heap = H) (hW : s.WarmedH U.vm) : xV ev B U := by
  obtain ⟨h0, h1, h2, h3, h4, h5, h6, h7, h8, h9, h10, h11, h12, h13, h14, h15, h16, h17, h18, h19, h20, h21, h22, h23, h24, h25, h26, h27, h28, h29, h30, h31, h32, h33, h34, h35, h36⟩ := h
  have hq : ∀ a : Nat, a < s.heap.size → ¬ A a → H[a]? = s.heap[a]? := hS.2.1
  unfold xV
  rw [hU]
  exact ⟨va_Nw.warmM hW h0, va_Nw.warmM hW h1, va_Nw.warmM hW h2, va_Nw.warmM hW h3, va_Nw.warmM hW h4, va_Nw.warmM hW h5, va_Nw.warmM hW h6, va_Nw.warmM hW h7, va_Nw.warmM hW h8, va_Nw.warmM hW h9, va_Nw.warmM hW h10, va_Nw.warmM hW h11, va_Nw.warmF hW h12, va_Nw.warmF hW h13, va_Z.moved hW.alike ((h14.kept hq).narrow hF), va_T.moved hW.alike ((h15.kept hq).narrow hF), va_Z.moved hW.alike ((h16.kept hq).narrow hF), va_T.moved hW.alike ((h17.kept hq).narrow hF), va_Z.moved hW.alike ((h18.kept hq).narrow hF), va_T.moved hW.alike ((h19.kept hq).narrow hF), va_Z.moved hW.alike ((h20.kept hq).narrow hF), va_T.moved hW.alike ((h21.kept hq).narrow hF), va_Z.moved hW.alike ((h22.kept hq).narrow hF), va_Zq.moved hW.alike ((h23.kept hq).narrow hF), va_AO.moved hW.alike h24, va_AO.moved hW.alike h25, x_aoa_moved hW.alike h26, vk_S.moved hW.alike ((h27.kept hq).narrow hF), vk_R.warm hW h28, vk_R.warm hW h29, vk_R.warm hW h30, vk_R.warm hW h31, vk_R.warm hW h32, vk_R.warm hW h33, vk_R.warm hW h34, vk_R.warm hW h35, vk_R.warm hW h36⟩
