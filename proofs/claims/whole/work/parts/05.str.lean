theorem xs_small : ∀ i, i < 9 → xs_len i < 2 ^ 31 := by decide +kernel
theorem xs_lt {i : Nat} {j : Int32} (hi : i < 9) (h : ¬ (j < 0 ∨ xs_len i ≤ j.toNatClampNeg)) : j < Int32.ofNat (xs_len i) := by
  obtain ⟨k, hk, rfl⟩ := vp_in_of h (xs_small i hi)
  exact nI_lt hk (xs_small i hi)
theorem xs_c : ∀ i, i < 9 → ∀ j, j < xs_len i → ((xs_ch i j &&& 255).toUInt32 % 65536).toInt32 = xs_ch i j ∧ narrow .char (.int (xs_ch i j)) = .int (xs_ch i j) := by decide +kernel
theorem zkJ0_coder_7d493_38 : Cond.fieldLink RJ0 38 "java/lang/String" "COMPACT_STRINGS" "Z" ∈ wsJ0_coder_7d493 := by decide +kernel
theorem zkJ0_coder_7d493_15 : Cond.fieldLink RJ0 15 "java/lang/String" "coder" "B" ∈ wsJ0_coder_7d493 := by decide +kernel
theorem zkJ0_isLatin1_aae02_38 : Cond.fieldLink RJ0 38 "java/lang/String" "COMPACT_STRINGS" "Z" ∈ wsJ0_isLatin1_aae02 := by decide +kernel
theorem zkJ0_isLatin1_aae02_15 : Cond.fieldLink RJ0 15 "java/lang/String" "coder" "B" ∈ wsJ0_isLatin1_aae02 := by decide +kernel
set_option maxHeartbeats 4000000 in
set_option maxRecDepth 100000 in
theorem cJ0_coder (l : Launch) (D : va_G) (c : Nat → ClassId) (ev : Nat → Nat) (sz : Nat) (i : Nat) (hi : i < 9) : Met l yJ0_coder_7d493 wsJ0_coder_7d493 ({ frames := 0, cells := 0, slots := 0, locals := 0 } : Room) (xPc D (xT c) sz [.ref (ev (10 + i))] [] (xV ev (va_A [] sz))) (xQi D (xT c) (va_A [] sz) 0 []) 0 0 (va_A [] sz) := by
  refine Met.ofW (cc := cJ0_coder_7d493) (maxL := 1) (ret := (some .byte)) (by decide) rfl ?_
  intro p e s m args below meth cd s₁ B hml hv
  obtain ⟨rfl, hsz, hP, hK, hD0, hV⟩ := hv
  subst hsz
  have hx := B.exec
  have hb := B.bytes
  have hret := B.returns
  have hlocks := B.notSynchronized
  have hown : s.vm.findClass RJ0 = some m.cls := findClass_of_methodNamed B.named
  have hts := atoms_spec (ws := wsJ0_coder_7d493) B.pre
  have hA : ∀ q, s.heap.size ≤ q → va_A [] s.heap.size q := fun q h => Or.inr h
  have hD : va_D (va_A [] s.heap.size) [] := hD0.self
  have hS : va_S (va_A [] s.heap.size) s.heap s.heap [] := va_S.rf
  have hVV := hV
  obtain ⟨hn_RX7_9, hn_RX6_17, hn_RX6_24, hn_RX7_18, hn_RX7_25, hn_RX7_45, hn_RX7_52, hn_RX7_65, hn_RX7_70, hn_RX0_31, hn_RX3_53, hn_RX2_57, hn_RX3_65, hn_RX3_86, hz_TAKES, ht_TAKES, hz_HAS_ROOM, ht_HAS_ROOM, hz_SUCH, ht_SUCH, hz_FIRST_FIGURE, ht_FIRST_FIGURE, hz_compact, hz_sioobe, ho_Room, ho_Slate, ho_grid, hstr, hs_0, hs_1, hs_2, hs_3, hs_4, hs_5, hs_6, hs_7, hs_8⟩ := hVV
  have hl := lv_entry [.ref (ev (10 + i))] (n := 1) (Nat.le_of_ble_eq_true rfl)
  rw [lg_entry_eq]
  generalize (lg_sl [.ref (ev (10 + i))] ++ List.replicate (1 - (lg_sl [.ref (ev (10 + i))]).length) Slot.unset).toArray = ls at hl ⊢
  have hl : lv_has ls 1 [(0, .ref (ev (10 + i)))] := hl
  refine va_gets hx hb hz_compact hS hown (hts _ zkJ0_coder_7d493_38) (fun _ h9 => h9) dJ0_coder_7d493_0 ?_
  refine lv_if_eq (tgt := 13) hx hb dJ0_coder_7d493_3 (by decide) (fun h => absurd h (by decide)) (fun _ => ?_)
  refine lv_aload_n hx hb dJ0_coder_7d493_6 rfl (lv_at hl 0 rfl) ?_
  refine vk_getf hx hb (hstr.1 i hi).2.1 hS hown (hts _ zkJ0_coder_7d493_15) (fun _ h9 => h9) dJ0_coder_7d493_7 ?_
  refine lv_goto (tgt := 14) hx hb dJ0_coder_7d493_10 (by decide) ?_
  exact x_retz hx hb hret rfl hlocks hP hD hK hS dJ0_coder_7d493_14
set_option maxHeartbeats 4000000 in
set_option maxRecDepth 100000 in
theorem cJ0_isLatin1 (l : Launch) (D : va_G) (c : Nat → ClassId) (ev : Nat → Nat) (sz : Nat) (i : Nat) (hi : i < 9) : Met l yJ0_isLatin1_aae02 wsJ0_isLatin1_aae02 ({ frames := 0, cells := 0, slots := 0, locals := 0 } : Room) (xPc D (xT c) sz [.ref (ev (10 + i))] [] (xV ev (va_A [] sz))) (xQi D (xT c) (va_A [] sz) 1 []) 0 0 (va_A [] sz) := by
  refine Met.ofW (cc := cJ0_isLatin1_aae02) (maxL := 1) (ret := (some .boolean)) (by decide) rfl ?_
  intro p e s m args below meth cd s₁ B hml hv
  obtain ⟨rfl, hsz, hP, hK, hD0, hV⟩ := hv
  subst hsz
  have hx := B.exec
  have hb := B.bytes
  have hret := B.returns
  have hlocks := B.notSynchronized
  have hown : s.vm.findClass RJ0 = some m.cls := findClass_of_methodNamed B.named
  have hts := atoms_spec (ws := wsJ0_isLatin1_aae02) B.pre
  have hA : ∀ q, s.heap.size ≤ q → va_A [] s.heap.size q := fun q h => Or.inr h
  have hD : va_D (va_A [] s.heap.size) [] := hD0.self
  have hS : va_S (va_A [] s.heap.size) s.heap s.heap [] := va_S.rf
  have hVV := hV
  obtain ⟨hn_RX7_9, hn_RX6_17, hn_RX6_24, hn_RX7_18, hn_RX7_25, hn_RX7_45, hn_RX7_52, hn_RX7_65, hn_RX7_70, hn_RX0_31, hn_RX3_53, hn_RX2_57, hn_RX3_65, hn_RX3_86, hz_TAKES, ht_TAKES, hz_HAS_ROOM, ht_HAS_ROOM, hz_SUCH, ht_SUCH, hz_FIRST_FIGURE, ht_FIRST_FIGURE, hz_compact, hz_sioobe, ho_Room, ho_Slate, ho_grid, hstr, hs_0, hs_1, hs_2, hs_3, hs_4, hs_5, hs_6, hs_7, hs_8⟩ := hVV
  have hl := lv_entry [.ref (ev (10 + i))] (n := 1) (Nat.le_of_ble_eq_true rfl)
  rw [lg_entry_eq]
  generalize (lg_sl [.ref (ev (10 + i))] ++ List.replicate (1 - (lg_sl [.ref (ev (10 + i))]).length) Slot.unset).toArray = ls at hl ⊢
  have hl : lv_has ls 1 [(0, .ref (ev (10 + i)))] := hl
  refine va_gets hx hb hz_compact hS hown (hts _ zkJ0_isLatin1_aae02_38) (fun _ h9 => h9) dJ0_isLatin1_aae02_0 ?_
  refine lv_if_eq (tgt := 17) hx hb dJ0_isLatin1_aae02_3 (by decide) (fun h => absurd h (by decide)) (fun _ => ?_)
  refine lv_aload_n hx hb dJ0_isLatin1_aae02_6 rfl (lv_at hl 0 rfl) ?_
  refine vk_getf hx hb (hstr.1 i hi).2.1 hS hown (hts _ zkJ0_isLatin1_aae02_15) (fun _ h9 => h9) dJ0_isLatin1_aae02_7 ?_
  refine lv_if_ne (tgt := 17) hx hb dJ0_isLatin1_aae02_10 (by decide) (fun h => absurd rfl h) (fun _ => ?_)
  refine lv_iconst (v := 1) hx hb dJ0_isLatin1_aae02_13 (by decide) ?_
  refine lv_goto (tgt := 18) hx hb dJ0_isLatin1_aae02_14 (by decide) ?_
  exact x_retz hx hb hret rfl hlocks hP hD hK hS dJ0_isLatin1_aae02_18
theorem zkJ0_length_8abf5_9 : Cond.fieldLink RJ0 9 "java/lang/String" "value" "[B" ∈ wsJ0_length_8abf5 := by decide +kernel
set_option maxHeartbeats 4000000 in
set_option maxRecDepth 100000 in
theorem cJ0_length (l : Launch) (D : va_G) (c : Nat → ClassId) (ev : Nat → Nat) (sz : Nat) (i : Nat) (hi : i < 9) : Met l yJ0_length_8abf5 wsJ0_length_8abf5 ({ frames := 1, cells := 0, slots := 0, locals := 20 } : Room) (xPc D (xT c) sz [.ref (ev (10 + i))] [] (xV ev (va_A [] sz))) (xQi D (xT c) (va_A [] sz) (Int32.ofNat (xs_len i)) []) 0 0 (va_A [] sz) := by
  refine Met.ofW (cc := cJ0_length_8abf5) (maxL := 1) (ret := (some .int)) (by decide) rfl ?_
  intro p e s m args below meth cd s₁ B hml hv
  obtain ⟨rfl, hsz, hP, hK, hD0, hV⟩ := hv
  subst hsz
  have hx := B.exec
  have hb := B.bytes
  have hret := B.returns
  have hlocks := B.notSynchronized
  have hown : s.vm.findClass RJ0 = some m.cls := findClass_of_methodNamed B.named
  have hts := atoms_spec (ws := wsJ0_length_8abf5) B.pre
  have hA : ∀ q, s.heap.size ≤ q → va_A [] s.heap.size q := fun q h => Or.inr h
  have hD : va_D (va_A [] s.heap.size) [] := hD0.self
  have hS : va_S (va_A [] s.heap.size) s.heap s.heap [] := va_S.rf
  have hVV := hV
  obtain ⟨hn_RX7_9, hn_RX6_17, hn_RX6_24, hn_RX7_18, hn_RX7_25, hn_RX7_45, hn_RX7_52, hn_RX7_65, hn_RX7_70, hn_RX0_31, hn_RX3_53, hn_RX2_57, hn_RX3_65, hn_RX3_86, hz_TAKES, ht_TAKES, hz_HAS_ROOM, ht_HAS_ROOM, hz_SUCH, ht_SUCH, hz_FIRST_FIGURE, ht_FIRST_FIGURE, hz_compact, hz_sioobe, ho_Room, ho_Slate, ho_grid, hstr, hs_0, hs_1, hs_2, hs_3, hs_4, hs_5, hs_6, hs_7, hs_8⟩ := hVV
  have hl := lv_entry [.ref (ev (10 + i))] (n := 1) (Nat.le_of_ble_eq_true rfl)
  rw [lg_entry_eq]
  generalize (lg_sl [.ref (ev (10 + i))] ++ List.replicate (1 - (lg_sl [.ref (ev (10 + i))]).length) Slot.unset).toArray = ls at hl ⊢
  have hl : lv_has ls 1 [(0, .ref (ev (10 + i)))] := hl
  refine lv_aload_n hx hb dJ0_length_8abf5_0 rfl (lv_at hl 0 rfl) ?_
  refine vk_getf hx hb (hstr.1 i hi).2.2.1 hS hown (hts _ zkJ0_length_8abf5_9) (fun _ h9 => h9) dJ0_length_8abf5_1 ?_
  refine va_tlen hx hb (hstr.1 i hi).2.2.2 hS (v := Int32.ofNat (xs_len i)) rfl dJ0_length_8abf5_4 ?_
  refine lv_aload_n hx hb dJ0_length_8abf5_5 rfl (lv_at hl 0 rfl) ?_
  refine x_runi (wr := []) (wf := []) (x_goVr (As := []) (rest := [.int (Int32.ofNat (xs_len i))]) (wc := []) ⟨hx, hb, hml, hown, hts⟩ (cJ0_coder l D c ev s.heap.size i hi) (cwV 0 hts gJ0_length_8abf5_J0_coder_7d493 rfl rfl rfl (by decide +kernel) ⟨Nat.le_of_ble_eq_true rfl, Nat.le_of_ble_eq_true rfl⟩) xV_b hP hD hK [] rfl (by decide) (fun U hU hW => xV_call hV hS (va_free hD hS hA [] rfl) hU hW) (vk_recv (adK := fun i => ev (10 + i)) (i := i) hstr hi hS) rfl hl.1 rfl (Nat.le_of_ble_eq_true rfl) dJ0_length_8abf5_6) hP hD hS hA [] [] [] rfl rfl rfl ⟨by decide, by decide, by decide⟩ (fun H locs hP hD hS => ?_)
  refine lv_ishr hx hb dJ0_length_8abf5_9 ?_
  refine W.eq (g2 := F0 m 10 ls [.int (Int32.ofNat (xs_len i))]) (by rw [sb_shr0]) ?_
  exact x_reti hx hb hret hlocks hP hD hK hS dJ0_length_8abf5_10
set_option maxHeartbeats 4000000 in
set_option maxRecDepth 100000 in
theorem cJ3_checkIndex_n (l : Launch) (D : va_G) (c : Nat → ClassId) (ev : Nat → Nat) (sz : Nat) (j k : Int32) (h1 : ¬ j < 0) (h2 : j < k) : Met l yJ3_checkIndex_8e157 wsJ3_checkIndex_8e157 ({ frames := 0, cells := 0, slots := 0, locals := 0 } : Room) (xPc D (xT c) sz [.int j, .int k, .null] [] (xV ev (va_A [] sz))) (xQi D (xT c) (va_A [] sz) j []) 0 0 (va_A [] sz) := by
  refine Met.ofW (cc := cJ3_checkIndex_8e157) (maxL := 3) (ret := (some .int)) (by decide) rfl ?_
  intro p e s m args below meth cd s₁ B hml hv
  obtain ⟨rfl, hsz, hP, hK, hD0, hV⟩ := hv
  subst hsz
  have hx := B.exec
  have hb := B.bytes
  have hret := B.returns
  have hlocks := B.notSynchronized
  have hown : s.vm.findClass RJ3 = some m.cls := findClass_of_methodNamed B.named
  have hts := atoms_spec (ws := wsJ3_checkIndex_8e157) B.pre
  have hA : ∀ q, s.heap.size ≤ q → va_A [] s.heap.size q := fun q h => Or.inr h
  have hD : va_D (va_A [] s.heap.size) [] := hD0.self
  have hS : va_S (va_A [] s.heap.size) s.heap s.heap [] := va_S.rf
  have hVV := hV
  obtain ⟨hn_RX7_9, hn_RX6_17, hn_RX6_24, hn_RX7_18, hn_RX7_25, hn_RX7_45, hn_RX7_52, hn_RX7_65, hn_RX7_70, hn_RX0_31, hn_RX3_53, hn_RX2_57, hn_RX3_65, hn_RX3_86, hz_TAKES, ht_TAKES, hz_HAS_ROOM, ht_HAS_ROOM, hz_SUCH, ht_SUCH, hz_FIRST_FIGURE, ht_FIRST_FIGURE, hz_compact, hz_sioobe, ho_Room, ho_Slate, ho_grid, hstr, hs_0, hs_1, hs_2, hs_3, hs_4, hs_5, hs_6, hs_7, hs_8⟩ := hVV
  have hl := lv_entry [.int j, .int k, .null] (n := 3) (Nat.le_of_ble_eq_true rfl)
  rw [lg_entry_eq]
  generalize (lg_sl [.int j, .int k, .null] ++ List.replicate (3 - (lg_sl [.int j, .int k, .null]).length) Slot.unset).toArray = ls at hl ⊢
  have hl : lv_has ls 3 [(0, .int j), (1, .int k), (2, .null)] := hl
  refine lv_iload_n hx hb dJ3_checkIndex_8e157_0 rfl (lv_at hl 0 rfl) ?_
  refine lv_if_lt (tgt := 9) hx hb dJ3_checkIndex_8e157_1 (by decide) (fun h => absurd h h1) (fun _ => ?_)
  refine lv_iload_n hx hb dJ3_checkIndex_8e157_4 rfl (lv_at hl 0 rfl) ?_
  refine lv_iload_n hx hb dJ3_checkIndex_8e157_5 rfl (lv_at hl 1 rfl) ?_
  refine lv_icmp_lt (tgt := 16) hx hb dJ3_checkIndex_8e157_6 (by decide) (fun _ => ?_) (fun h => absurd h2 h)
  refine lv_iload_n hx hb dJ3_checkIndex_8e157_16 rfl (lv_at hl 0 rfl) ?_
  exact x_reti hx hb hret hlocks hP hD hK hS dJ3_checkIndex_8e157_17
set_option maxHeartbeats 4000000 in
set_option maxRecDepth 100000 in
theorem cJ3_checkIndex_r (l : Launch) (D : va_G) (c : Nat → ClassId) (ev : Nat → Nat) (sz : Nat) (j k : Int32) (t : Nat) (h1 : ¬ j < 0) (h2 : j < k) : Met l yJ3_checkIndex_8e157 wsJ3_checkIndex_8e157 ({ frames := 0, cells := 0, slots := 0, locals := 0 } : Room) (xPc D (xT c) sz [.int j, .int k, .ref t] [] (xV ev (va_A [] sz))) (xQi D (xT c) (va_A [] sz) j []) 0 0 (va_A [] sz) := by
  refine Met.ofW (cc := cJ3_checkIndex_8e157) (maxL := 3) (ret := (some .int)) (by decide) rfl ?_
  intro p e s m args below meth cd s₁ B hml hv
  obtain ⟨rfl, hsz, hP, hK, hD0, hV⟩ := hv
  subst hsz
  have hx := B.exec
  have hb := B.bytes
  have hret := B.returns
  have hlocks := B.notSynchronized
  have hown : s.vm.findClass RJ3 = some m.cls := findClass_of_methodNamed B.named
  have hts := atoms_spec (ws := wsJ3_checkIndex_8e157) B.pre
  have hA : ∀ q, s.heap.size ≤ q → va_A [] s.heap.size q := fun q h => Or.inr h
  have hD : va_D (va_A [] s.heap.size) [] := hD0.self
  have hS : va_S (va_A [] s.heap.size) s.heap s.heap [] := va_S.rf
  have hVV := hV
  obtain ⟨hn_RX7_9, hn_RX6_17, hn_RX6_24, hn_RX7_18, hn_RX7_25, hn_RX7_45, hn_RX7_52, hn_RX7_65, hn_RX7_70, hn_RX0_31, hn_RX3_53, hn_RX2_57, hn_RX3_65, hn_RX3_86, hz_TAKES, ht_TAKES, hz_HAS_ROOM, ht_HAS_ROOM, hz_SUCH, ht_SUCH, hz_FIRST_FIGURE, ht_FIRST_FIGURE, hz_compact, hz_sioobe, ho_Room, ho_Slate, ho_grid, hstr, hs_0, hs_1, hs_2, hs_3, hs_4, hs_5, hs_6, hs_7, hs_8⟩ := hVV
  have hl := lv_entry [.int j, .int k, .ref t] (n := 3) (Nat.le_of_ble_eq_true rfl)
  rw [lg_entry_eq]
  generalize (lg_sl [.int j, .int k, .ref t] ++ List.replicate (3 - (lg_sl [.int j, .int k, .ref t]).length) Slot.unset).toArray = ls at hl ⊢
  have hl : lv_has ls 3 [(0, .int j), (1, .int k), (2, .ref t)] := hl
  refine lv_iload_n hx hb dJ3_checkIndex_8e157_0 rfl (lv_at hl 0 rfl) ?_
  refine lv_if_lt (tgt := 9) hx hb dJ3_checkIndex_8e157_1 (by decide) (fun h => absurd h h1) (fun _ => ?_)
  refine lv_iload_n hx hb dJ3_checkIndex_8e157_4 rfl (lv_at hl 0 rfl) ?_
  refine lv_iload_n hx hb dJ3_checkIndex_8e157_5 rfl (lv_at hl 1 rfl) ?_
  refine lv_icmp_lt (tgt := 16) hx hb dJ3_checkIndex_8e157_6 (by decide) (fun _ => ?_) (fun h => absurd h2 h)
  refine lv_iload_n hx hb dJ3_checkIndex_8e157_16 rfl (lv_at hl 0 rfl) ?_
  exact x_reti hx hb hret hlocks hP hD hK hS dJ3_checkIndex_8e157_17
theorem zkJ0_checkIndex_df160_1053 : Cond.fieldLink RJ0 1053 "jdk/internal/util/Preconditions" "SIOOBE_FORMATTER" "Ljava/util/function/BiFunction;" ∈ wsJ0_checkIndex_df160 := by decide +kernel
set_option maxHeartbeats 4000000 in
set_option maxRecDepth 100000 in
theorem cJ0_checkIndex (l : Launch) (D : va_G) (c : Nat → ClassId) (ev : Nat → Nat) (sz : Nat) (j k : Int32) (h1 : ¬ j < 0) (h2 : j < k) : Met l yJ0_checkIndex_df160 wsJ0_checkIndex_df160 ({ frames := 1, cells := 0, slots := 0, locals := 22 } : Room) (xPc D (xT c) sz [.int j, .int k] [] (xV ev (va_A [] sz))) (xQv D (xT c) (va_A [] sz) []) 0 0 (va_A [] sz) := by
  refine Met.ofW (cc := cJ0_checkIndex_df160) (maxL := 2) (ret := none) (by decide) rfl ?_
  intro p e s m args below meth cd s₁ B hml hv
  obtain ⟨rfl, hsz, hP, hK, hD0, hV⟩ := hv
  subst hsz
  have hx := B.exec
  have hb := B.bytes
  have hret := B.returns
  have hlocks := B.notSynchronized
  have hown : s.vm.findClass RJ0 = some m.cls := findClass_of_methodNamed B.named
  have hts := atoms_spec (ws := wsJ0_checkIndex_df160) B.pre
  have hA : ∀ q, s.heap.size ≤ q → va_A [] s.heap.size q := fun q h => Or.inr h
  have hD : va_D (va_A [] s.heap.size) [] := hD0.self
  have hS : va_S (va_A [] s.heap.size) s.heap s.heap [] := va_S.rf
  have hVV := hV
  obtain ⟨hn_RX7_9, hn_RX6_17, hn_RX6_24, hn_RX7_18, hn_RX7_25, hn_RX7_45, hn_RX7_52, hn_RX7_65, hn_RX7_70, hn_RX0_31, hn_RX3_53, hn_RX2_57, hn_RX3_65, hn_RX3_86, hz_TAKES, ht_TAKES, hz_HAS_ROOM, ht_HAS_ROOM, hz_SUCH, ht_SUCH, hz_FIRST_FIGURE, ht_FIRST_FIGURE, hz_compact, hz_sioobe, ho_Room, ho_Slate, ho_grid, hstr, hs_0, hs_1, hs_2, hs_3, hs_4, hs_5, hs_6, hs_7, hs_8⟩ := hVV
  have hl := lv_entry [.int j, .int k] (n := 2) (Nat.le_of_ble_eq_true rfl)
  rw [lg_entry_eq]
  generalize (lg_sl [.int j, .int k] ++ List.replicate (2 - (lg_sl [.int j, .int k]).length) Slot.unset).toArray = ls at hl ⊢
  have hl : lv_has ls 2 [(0, .int j), (1, .int k)] := hl
  refine lv_iload_n hx hb dJ0_checkIndex_df160_0 rfl (lv_at hl 0 rfl) ?_
  refine lv_iload_n hx hb dJ0_checkIndex_df160_1 rfl (lv_at hl 1 rfl) ?_
  rcases hz_sioobe with hz_s | ⟨t, hz_s⟩
  · refine va_gets hx hb hz_s hS hown (hts _ zkJ0_checkIndex_df160_1053) (fun _ h9 => h9) dJ0_checkIndex_df160_2 ?_
    refine x_runi (wr := []) (wf := []) (x_goS (As := [.int j, .int k, .null]) (rest := []) (wc := []) ⟨hx, hb, hml, hown, hts⟩ (cJ3_checkIndex_n l D c ev s.heap.size j k h1 h2) (va_cwS 3 hts gJ0_checkIndex_df160_J3_checkIndex_8e157 rfl rfl rfl (by decide +kernel) ⟨Nat.le_of_ble_eq_true rfl, Nat.le_of_ble_eq_true rfl⟩) xV_b hP hD hK [] rfl (by decide) (fun U hU hW => xV_call hV hS (va_free hD hS hA [] rfl) hU hW) rfl hl.1 rfl (Nat.le_of_ble_eq_true rfl) dJ0_checkIndex_df160_5) hP hD hS hA [] [] [] rfl rfl rfl ⟨by decide, by decide, by decide⟩ (fun H locs hP hD hS => ?_)
    refine lv_pop hx hb dJ0_checkIndex_df160_8 rfl ?_
    exact x_retv hx hb hret hlocks hP hD hK hS dJ0_checkIndex_df160_9
  · refine va_gets hx hb hz_s hS hown (hts _ zkJ0_checkIndex_df160_1053) (fun _ h9 => h9) dJ0_checkIndex_df160_2 ?_
    refine x_runi (wr := []) (wf := []) (x_goS (As := [.int j, .int k, .ref t]) (rest := []) (wc := []) ⟨hx, hb, hml, hown, hts⟩ (cJ3_checkIndex_r l D c ev s.heap.size j k t h1 h2) (va_cwS 3 hts gJ0_checkIndex_df160_J3_checkIndex_8e157 rfl rfl rfl (by decide +kernel) ⟨Nat.le_of_ble_eq_true rfl, Nat.le_of_ble_eq_true rfl⟩) xV_b hP hD hK [] rfl (by decide) (fun U hU hW => xV_call hV hS (va_free hD hS hA [] rfl) hU hW) rfl hl.1 rfl (Nat.le_of_ble_eq_true rfl) dJ0_checkIndex_df160_5) hP hD hS hA [] [] [] rfl rfl rfl ⟨by decide, by decide, by decide⟩ (fun H locs hP hD hS => ?_)
    refine lv_pop hx hb dJ0_checkIndex_df160_8 rfl ?_
    exact x_retv hx hb hret hlocks hP hD hK hS dJ0_checkIndex_df160_9
set_option maxHeartbeats 4000000 in
set_option maxRecDepth 100000 in
theorem cJ1_charAt (l : Launch) (D : va_G) (c : Nat → ClassId) (ev : Nat → Nat) (sz : Nat) (i : Nat) (hi : i < 9) (j : Int32) (h : ¬ (j < 0 ∨ xs_len i ≤ j.toNatClampNeg)) : Met l yJ1_charAt_3b067 wsJ1_charAt_3b067 ({ frames := 2, cells := 0, slots := 0, locals := 43 } : Room) (xPc D (xT c) sz [.ref (ev (30 + i)), .int j] [] (xV ev (va_A [] sz))) (xQi D (xT c) (va_A [] sz) (xs_ch i j.toNatClampNeg) []) 0 0 (va_A [] sz) := by
  refine Met.ofW (cc := cJ1_charAt_3b067) (maxL := 2) (ret := (some .char)) (by decide) rfl ?_
  intro p e s m args below meth cd s₁ B hml hv
  obtain ⟨rfl, hsz, hP, hK, hD0, hV⟩ := hv
  subst hsz
  have hx := B.exec
  have hb := B.bytes
  have hret := B.returns
  have hlocks := B.notSynchronized
  have hown : s.vm.findClass RJ1 = some m.cls := findClass_of_methodNamed B.named
  have hts := atoms_spec (ws := wsJ1_charAt_3b067) B.pre
  have hA : ∀ q, s.heap.size ≤ q → va_A [] s.heap.size q := fun q h => Or.inr h
  have hD : va_D (va_A [] s.heap.size) [] := hD0.self
  have hS : va_S (va_A [] s.heap.size) s.heap s.heap [] := va_S.rf
  have hVV := hV
  obtain ⟨hn_RX7_9, hn_RX6_17, hn_RX6_24, hn_RX7_18, hn_RX7_25, hn_RX7_45, hn_RX7_52, hn_RX7_65, hn_RX7_70, hn_RX0_31, hn_RX3_53, hn_RX2_57, hn_RX3_65, hn_RX3_86, hz_TAKES, ht_TAKES, hz_HAS_ROOM, ht_HAS_ROOM, hz_SUCH, ht_SUCH, hz_FIRST_FIGURE, ht_FIRST_FIGURE, hz_compact, hz_sioobe, ho_Room, ho_Slate, ho_grid, hstr, hs_0, hs_1, hs_2, hs_3, hs_4, hs_5, hs_6, hs_7, hs_8⟩ := hVV
  have hl := lv_entry [.ref (ev (30 + i)), .int j] (n := 2) (Nat.le_of_ble_eq_true rfl)
  rw [lg_entry_eq]
  generalize (lg_sl [.ref (ev (30 + i)), .int j] ++ List.replicate (2 - (lg_sl [.ref (ev (30 + i)), .int j]).length) Slot.unset).toArray = ls at hl ⊢
  have hl : lv_has ls 2 [(0, .ref (ev (30 + i))), (1, .int j)] := hl
  have hj := x_in0 h
  have hk : j < Int32.ofNat (xs_len i) := xs_lt hi h
  refine lv_iload_n hx hb dJ1_charAt_3b067_0 rfl (lv_at hl 1 rfl) ?_
  refine lv_aload_n hx hb dJ1_charAt_3b067_1 rfl (lv_at hl 0 rfl) ?_
  refine va_tlen hx hb (hstr.1 i hi).2.2.2 hS (v := Int32.ofNat (xs_len i)) rfl dJ1_charAt_3b067_2 ?_
  refine x_runv (wr := []) (wf := []) (x_goS (As := [.int j, .int (Int32.ofNat (xs_len i))]) (rest := []) (wc := []) ⟨hx, hb, hml, hown, hts⟩ (cJ0_checkIndex l D c ev s.heap.size j (Int32.ofNat (xs_len i)) (fun q => h (Or.inl q)) hk) (va_cwS 2 hts gJ1_charAt_3b067_J0_checkIndex_df160 rfl rfl rfl (by decide +kernel) ⟨Nat.le_of_ble_eq_true rfl, Nat.le_of_ble_eq_true rfl⟩) xV_b hP hD hK [] rfl (by decide) (fun U hU hW => xV_call hV hS (va_free hD hS hA [] rfl) hU hW) rfl hl.1 rfl (Nat.le_of_ble_eq_true rfl) dJ1_charAt_3b067_3) hP hD hS hA [] [] [] rfl rfl rfl ⟨by decide, by decide, by decide⟩ (fun H locs hP hD hS => ?_)
  refine lv_aload_n hx hb dJ1_charAt_3b067_6 rfl (lv_at hl 0 rfl) ?_
  refine lv_iload_n hx hb dJ1_charAt_3b067_7 rfl (lv_at hl 1 rfl) ?_
  refine va_tb hx hb (hstr.1 i hi).2.2.2 hS h (v := .int (xs_ch i j.toNatClampNeg)) rfl dJ1_charAt_3b067_8 ?_
  refine lv_sipush (v := 255) hx hb dJ1_charAt_3b067_9 (by decide) ?_
  refine lv_iand hx hb dJ1_charAt_3b067_12 ?_
  refine lv_i2c hx hb dJ1_charAt_3b067_13 rfl ?_
  refine W.eq (g2 := F0 m 14 ls [.int (xs_ch i j.toNatClampNeg)]) (by rw [(xs_c i hi _ hj).1]) ?_
  exact x_retz hx hb hret (xs_c i hi _ hj).2 hlocks hP hD hK hS dJ1_charAt_3b067_14
theorem zkJ0_charAt_5068e_9 : Cond.fieldLink RJ0 9 "java/lang/String" "value" "[B" ∈ wsJ0_charAt_5068e := by decide +kernel
set_option maxHeartbeats 4000000 in
set_option maxRecDepth 100000 in
theorem cJ0_charAt (l : Launch) (D : va_G) (c : Nat → ClassId) (ev : Nat → Nat) (sz : Nat) (i : Nat) (hi : i < 9) (j : Int32) (h : ¬ (j < 0 ∨ xs_len i ≤ j.toNatClampNeg)) : Met l yJ0_charAt_5068e wsJ0_charAt_5068e ({ frames := 3, cells := 0, slots := 0, locals := 64 } : Room) (xPc D (xT c) sz [.ref (ev (10 + i)), .int j] [] (xV ev (va_A [] sz))) (xQi D (xT c) (va_A [] sz) (xs_ch i j.toNatClampNeg) []) 0 0 (va_A [] sz) := by
  refine Met.ofW (cc := cJ0_charAt_5068e) (maxL := 2) (ret := (some .char)) (by decide) rfl ?_
  intro p e s m args below meth cd s₁ B hml hv
  obtain ⟨rfl, hsz, hP, hK, hD0, hV⟩ := hv
  subst hsz
  have hx := B.exec
  have hb := B.bytes
  have hret := B.returns
  have hlocks := B.notSynchronized
  have hown : s.vm.findClass RJ0 = some m.cls := findClass_of_methodNamed B.named
  have hts := atoms_spec (ws := wsJ0_charAt_5068e) B.pre
  have hA : ∀ q, s.heap.size ≤ q → va_A [] s.heap.size q := fun q h => Or.inr h
  have hD : va_D (va_A [] s.heap.size) [] := hD0.self
  have hS : va_S (va_A [] s.heap.size) s.heap s.heap [] := va_S.rf
  have hVV := hV
  obtain ⟨hn_RX7_9, hn_RX6_17, hn_RX6_24, hn_RX7_18, hn_RX7_25, hn_RX7_45, hn_RX7_52, hn_RX7_65, hn_RX7_70, hn_RX0_31, hn_RX3_53, hn_RX2_57, hn_RX3_65, hn_RX3_86, hz_TAKES, ht_TAKES, hz_HAS_ROOM, ht_HAS_ROOM, hz_SUCH, ht_SUCH, hz_FIRST_FIGURE, ht_FIRST_FIGURE, hz_compact, hz_sioobe, ho_Room, ho_Slate, ho_grid, hstr, hs_0, hs_1, hs_2, hs_3, hs_4, hs_5, hs_6, hs_7, hs_8⟩ := hVV
  have hl := lv_entry [.ref (ev (10 + i)), .int j] (n := 2) (Nat.le_of_ble_eq_true rfl)
  rw [lg_entry_eq]
  generalize (lg_sl [.ref (ev (10 + i)), .int j] ++ List.replicate (2 - (lg_sl [.ref (ev (10 + i)), .int j]).length) Slot.unset).toArray = ls at hl ⊢
  have hl : lv_has ls 2 [(0, .ref (ev (10 + i))), (1, .int j)] := hl
  have hj := x_in0 h
  refine lv_aload_n hx hb dJ0_charAt_5068e_0 rfl (lv_at hl 0 rfl) ?_
  refine x_runi (wr := []) (wf := []) (x_goVr (As := []) (rest := []) (wc := []) ⟨hx, hb, hml, hown, hts⟩ (cJ0_isLatin1 l D c ev s.heap.size i hi) (cwV 0 hts gJ0_charAt_5068e_J0_isLatin1_aae02 rfl rfl rfl (by decide +kernel) ⟨Nat.le_of_ble_eq_true rfl, Nat.le_of_ble_eq_true rfl⟩) xV_b hP hD hK [] rfl (by decide) (fun U hU hW => xV_call hV hS (va_free hD hS hA [] rfl) hU hW) (vk_recv (adK := fun i => ev (10 + i)) (i := i) hstr hi hS) rfl hl.1 rfl (Nat.le_of_ble_eq_true rfl) dJ0_charAt_5068e_1) hP hD hS hA [] [] [] rfl rfl rfl ⟨by decide, by decide, by decide⟩ (fun H locs hP hD hS => ?_)
  refine lv_if_eq (tgt := 16) hx hb dJ0_charAt_5068e_4 (by decide) (fun h => absurd h (by decide)) (fun _ => ?_)
  refine lv_aload_n hx hb dJ0_charAt_5068e_7 rfl (lv_at hl 0 rfl) ?_
  refine vk_getf hx hb (hstr.1 i hi).2.2.1 hS hown (hts _ zkJ0_charAt_5068e_9) (fun _ h9 => h9) dJ0_charAt_5068e_8 ?_
  refine lv_iload_n hx hb dJ0_charAt_5068e_11 rfl (lv_at hl 1 rfl) ?_
  refine x_runi (wr := []) (wf := []) (x_goS (As := [.ref (ev (30 + i)), .int j]) (rest := []) (wc := []) ⟨hx, hb, hml, hown, hts⟩ (cJ1_charAt l D c ev H.size i hi j h) (va_cwS 2 hts gJ0_charAt_5068e_J1_charAt_3b067 rfl rfl rfl (by decide +kernel) ⟨Nat.le_of_ble_eq_true rfl, Nat.le_of_ble_eq_true rfl⟩) xV_b hP hD hK [] rfl (by decide) (fun U hU hW => xV_call hV hS (va_free hD hS hA [] rfl) hU hW) rfl hl.1 rfl (Nat.le_of_ble_eq_true rfl) dJ0_charAt_5068e_12) hP hD hS hA [] [] [] rfl rfl rfl ⟨by decide, by decide, by decide⟩ (fun H locs hP hD hS => ?_)
  exact x_retz hx hb hret (xs_c i hi _ hj).2 hlocks hP hD hK hS dJ0_charAt_5068e_15
