/-! rows for constructors: new arrays of the known classes, the end with new cells -/
theorem x_ty0 {D : va_G} {c : Nat → ClassId} {s : State} {q : ClassId} (h : va_K D vwCl (xT c ++ [(q, .int)]) s) : q = c 0 := by
  have a : s.vm.findClass ("[" ++ (FieldType.int).toString) = some q := (h.2 6 _ rfl).2
  have b : s.vm.findClass ("[" ++ (FieldType.int).toString) = some (c 0) := (h.2 0 _ rfl).2
  exact Option.some.inj (a.symm.trans b)
theorem x_ty1 {D : va_G} {c : Nat → ClassId} {s : State} {q : ClassId} (h : va_K D vwCl (xT c ++ [(q, .long)]) s) : q = c 1 := by
  have a : s.vm.findClass ("[" ++ (FieldType.long).toString) = some q := (h.2 6 _ rfl).2
  have b : s.vm.findClass ("[" ++ (FieldType.long).toString) = some (c 1) := (h.2 1 _ rfl).2
  exact Option.some.inj (a.symm.trans b)
theorem x_ty2 {D : va_G} {c : Nat → ClassId} {s : State} {q : ClassId} (h : va_K D vwCl (xT c ++ [(q, .boolean)]) s) : q = c 2 := by
  have a : s.vm.findClass ("[" ++ (FieldType.boolean).toString) = some q := (h.2 6 _ rfl).2
  have b : s.vm.findClass ("[" ++ (FieldType.boolean).toString) = some (c 2) := (h.2 2 _ rfl).2
  exact Option.some.inj (a.symm.trans b)
theorem x_ty3 {D : va_G} {c : Nat → ClassId} {s : State} {q : ClassId} (h : va_K D vwCl (xT c ++ [(q, .object "LeechClub$Room")]) s) : q = c 3 := by
  obtain ⟨-, -, -, -, -, a⟩ := (h.2 6 (q, .object "LeechClub$Room") rfl).2
  obtain ⟨-, -, -, -, -, b⟩ := (h.2 3 (c 3, .object "LeechClub$Room") rfl).2
  exact Option.some.inj (a.symm.trans b)
theorem x_ty4 {D : va_G} {c : Nat → ClassId} {s : State} {q : ClassId} (h : va_K D vwCl (xT c ++ [(q, .object "LeechClub$Slate")]) s) : q = c 4 := by
  obtain ⟨-, -, -, -, -, a⟩ := (h.2 6 (q, .object "LeechClub$Slate") rfl).2
  obtain ⟨-, -, -, -, -, b⟩ := (h.2 4 (c 4, .object "LeechClub$Slate") rfl).2
  exact Option.some.inj (a.symm.trans b)
theorem x_ty5 {D : va_G} {c : Nat → ClassId} {s : State} {q : ClassId} (h : va_K D vwCl (xT c ++ [(q, .array .int)]) s) : q = c 5 := by
  have a : s.vm.findClass ("[" ++ (FieldType.array .int).toString) = some q := (h.2 6 _ rfl).2
  have b : s.vm.findClass ("[" ++ (FieldType.array .int).toString) = some (c 5) := (h.2 5 _ rfl).2
  exact Option.some.inj (a.symm.trans b)
/-- a constructor's end: the world, at new addresses -/
def xQc (D : va_G) (ty : List (ClassId × FieldType)) (A : Nat → Prop) (wf : (Nat → Nat) → va_W) : Array Value → State → Outcome → State → Prop :=
  va_Qv (fun (_ : Nat → Nat) => True) (fun u t => va_P D vwCl (wf u) t.heap ∧ va_K D vwCl ty t ∧ va_D A (wf u)) A
section XNEW
variable {p : Program} {l : Launch} {e : Env} {R : Room} {s : State} {m : MethodId} {args : Array Value} {below : List Frame} {meth : Method} {cd : Code} {H : Heap} {locs : List Loc} {cells slots : Nat} {Q : State → Prop}
variable {cc : ByteArray} {pc : Nat} {ls : Array Slot} {rest : List Value} {D : va_G} {c : Nat → ClassId} {A : Nat → Prop} {ws : va_W} {H0 : Heap}
theorem x_newi (hx : p.tables.exec = Jvm.exec) (hb : cd.code = cc) (harr : (Cond.arrayClass .int).before args s = true) (hK : va_K D vwCl (xT c) s) (hP : va_P D vwCl ws H) (hD : va_D A ws) (hS : va_S A H0 H locs) (hA : ∀ q, H0.size ≤ q → A q) {n : Int32} (N' : Nat) (hn : ¬ n < 0) (hN : n.toNatClampNeg = N') (hby : N' * componentBytes .int ≤ 536870912) (k1 k2 : Nat) (hc : cells + 1 = k1 ∧ slots + N' = k2) (hR : k1 ≤ R.cells ∧ k2 ≤ R.slots) (hdg : decode cc pc = .ok (.newarray .int, 2))
    (kk : ∀ (q : Nat) (H : Heap), va_P D vwCl (ws ++ [(q, .inl (c 0, N', .inl (fun _ => 0)))]) H → va_D A (ws ++ [(q, .inl (c 0, N', .inl (fun _ => 0)))]) → va_S A H0 H locs → W p l e R s m args below meth cd H locs k1 k2 Q (F0 m (pc + 2) ls (.ref q :: rest))) : W p l e R s m args below meth cd H locs cells slots Q (F0 m pc ls (.int n :: rest)) := by
  obtain ⟨rfl, rfl⟩ := hc
  refine va_newa (atype := .int) (ty := .int) hx hb harr rfl hK hP hD hS hA (a0 := (N', .inl (fun _ => 0))) (fun cA => rfl) hn hN hby hR.1 hR.2 hdg (fun q cA H1 hK1 hP1 hD1 hS1 => ?_)
  have e := x_ty0 hK1
  subst e
  exact kk q H1 hP1 hD1 hS1
theorem x_newl (hx : p.tables.exec = Jvm.exec) (hb : cd.code = cc) (harr : (Cond.arrayClass .long).before args s = true) (hK : va_K D vwCl (xT c) s) (hP : va_P D vwCl ws H) (hD : va_D A ws) (hS : va_S A H0 H locs) (hA : ∀ q, H0.size ≤ q → A q) {n : Int32} (N' : Nat) (hn : ¬ n < 0) (hN : n.toNatClampNeg = N') (hby : N' * componentBytes .long ≤ 536870912) (k1 k2 : Nat) (hc : cells + 1 = k1 ∧ slots + N' = k2) (hR : k1 ≤ R.cells ∧ k2 ≤ R.slots) (hdg : decode cc pc = .ok (.newarray .long, 2))
    (kk : ∀ (q : Nat) (H : Heap), va_P D vwCl (ws ++ [(q, .inl (c 1, N', .inr (.inl (fun _ => 0))))]) H → va_D A (ws ++ [(q, .inl (c 1, N', .inr (.inl (fun _ => 0))))]) → va_S A H0 H locs → W p l e R s m args below meth cd H locs k1 k2 Q (F0 m (pc + 2) ls (.ref q :: rest))) : W p l e R s m args below meth cd H locs cells slots Q (F0 m pc ls (.int n :: rest)) := by
  obtain ⟨rfl, rfl⟩ := hc
  refine va_newa (atype := .long) (ty := .long) hx hb harr rfl hK hP hD hS hA (a0 := (N', .inr (.inl (fun _ => 0)))) (fun cA => rfl) hn hN hby hR.1 hR.2 hdg (fun q cA H1 hK1 hP1 hD1 hS1 => ?_)
  have e := x_ty1 hK1
  subst e
  exact kk q H1 hP1 hD1 hS1
theorem x_newz (hx : p.tables.exec = Jvm.exec) (hb : cd.code = cc) (harr : (Cond.arrayClass .boolean).before args s = true) (hK : va_K D vwCl (xT c) s) (hP : va_P D vwCl ws H) (hD : va_D A ws) (hS : va_S A H0 H locs) (hA : ∀ q, H0.size ≤ q → A q) {n : Int32} (N' : Nat) (hn : ¬ n < 0) (hN : n.toNatClampNeg = N') (hby : N' * componentBytes .boolean ≤ 536870912) (k1 k2 : Nat) (hc : cells + 1 = k1 ∧ slots + N' = k2) (hR : k1 ≤ R.cells ∧ k2 ≤ R.slots) (hdg : decode cc pc = .ok (.newarray .boolean, 2))
    (kk : ∀ (q : Nat) (H : Heap), va_P D vwCl (ws ++ [(q, .inl (c 2, N', .inl (fun _ => 0)))]) H → va_D A (ws ++ [(q, .inl (c 2, N', .inl (fun _ => 0)))]) → va_S A H0 H locs → W p l e R s m args below meth cd H locs k1 k2 Q (F0 m (pc + 2) ls (.ref q :: rest))) : W p l e R s m args below meth cd H locs cells slots Q (F0 m pc ls (.int n :: rest)) := by
  obtain ⟨rfl, rfl⟩ := hc
  refine va_newa (atype := .boolean) (ty := .boolean) hx hb harr rfl hK hP hD hS hA (a0 := (N', .inl (fun _ => 0))) (fun cA => rfl) hn hN hby hR.1 hR.2 hdg (fun q cA H1 hK1 hP1 hD1 hS1 => ?_)
  have e := x_ty2 hK1
  subst e
  exact kk q H1 hP1 hD1 hS1
theorem x_newR {own C : String} {index : Nat} (t : Nat) (hty : ∀ q, va_K D vwCl (xT c ++ [(q, .object C)]) s → q = c t) (hx : p.tables.exec = Jvm.exec) (hb : cd.code = cc) (hown : s.vm.findClass own = some m.cls) (hcl : (Cond.classLink own index C).before args s = true) (ho : va_AO C s) (hK : va_K D vwCl (xT c) s) (hP : va_P D vwCl ws H) (hD : va_D A ws) (hS : va_S A H0 H locs) (hA : ∀ q, H0.size ≤ q → A q) {n : Int32} (N' : Nat) (hn : ¬ n < 0) (hN : n.toNatClampNeg = N') (hby : N' * 4 ≤ 536870912) (k1 k2 : Nat) (hc : cells + 1 = k1 ∧ slots + N' = k2) (hR : k1 ≤ R.cells ∧ k2 ≤ R.slots) (hdg : decode cc pc = .ok (.anewarray index, 3))
    (kk : ∀ (q : Nat) (H : Heap), va_P D vwCl (ws ++ [(q, .inl (c t, N', .inr (.inr (.inr (.inr (fun _ => none))))))]) H → va_D A (ws ++ [(q, .inl (c t, N', .inr (.inr (.inr (.inr (fun _ => none))))))]) → va_S A H0 H locs → W p l e R s m args below meth cd H locs k1 k2 Q (F0 m (pc + 3) ls (.ref q :: rest))) : W p l e R s m args below meth cd H locs cells slots Q (F0 m pc ls (.int n :: rest)) := by
  obtain ⟨rfl, rfl⟩ := hc
  refine va_newq hx hb hown hcl ho hK hP hD hS hA hn hN hby hR.1 hR.2 hdg (fun q cA H1 hK1 hP1 hD1 hS1 => ?_)
  have e := hty _ hK1
  subst e
  exact kk q H1 hP1 hD1 hS1
/-- four rows of 32 ints, and the row of them -/
theorem x_newg {own : String} {index : Nat} (hx : p.tables.exec = Jvm.exec) (hb : cd.code = cc) (hown : s.vm.findClass own = some m.cls) (hcl : (Cond.classLink own index "[[I").before args s = true) (ho : va_AOA .int s) (harr : (Cond.arrayClass .int).before args s = true) (hK : va_K D vwCl (xT c) s) (hP : va_P D vwCl ws H) (hD : va_D A ws) (hS : va_S A H0 H locs) (hA : ∀ q, H0.size ≤ q → A q) (k1 k2 : Nat) (hc : cells + 5 = k1 ∧ slots + 132 = k2) (hR : k1 ≤ R.cells ∧ k2 ≤ R.slots) (hdg : decode cc pc = .ok (.multianewarray index 2, 4))
    (kk : ∀ (q : Nat) (r : Nat → Nat) (H : Heap), va_P D vwCl (ws ++ [(q, .inl (c 5, 4, .inr (.inr (.inr (.inr (fun i => if i = 0 then some (r 0) else if i = 1 then some (r 1) else if i = 2 then some (r 2) else if i = 3 then some (r 3) else none)))))), (r 0, .inl (c 0, 32, .inl (fun _ => 0))), (r 1, .inl (c 0, 32, .inl (fun _ => 0))), (r 2, .inl (c 0, 32, .inl (fun _ => 0))), (r 3, .inl (c 0, 32, .inl (fun _ => 0)))]) H → va_D A (ws ++ [(q, .inl (c 5, 4, .inr (.inr (.inr (.inr (fun i => if i = 0 then some (r 0) else if i = 1 then some (r 1) else if i = 2 then some (r 2) else if i = 3 then some (r 3) else none)))))), (r 0, .inl (c 0, 32, .inl (fun _ => 0))), (r 1, .inl (c 0, 32, .inl (fun _ => 0))), (r 2, .inl (c 0, 32, .inl (fun _ => 0))), (r 3, .inl (c 0, 32, .inl (fun _ => 0)))]) → va_S A H0 H locs → W p l e R s m args below meth cd H locs k1 k2 Q (F0 m (pc + 4) ls (.ref q :: rest))) : W p l e R s m args below meth cd H locs cells slots Q (F0 m pc ls (.int 32 :: .int 4 :: rest)) := by
  obtain ⟨rfl, rfl⟩ := hc
  have b : s.vm.findClass (FieldType.array .int).toString = some (c 0) := (hK.2 0 _ rfl).2
  have e0 : ws = ws ++ va_pl [] (fun _ => .inl (c 0, 32, .inl (fun _ => 0))) := by unfold va_pl; simp
  rw [e0] at hP hD
  refine va_mna hx hb hown hcl ho harr b hK hP hD hS hA (N' := 4) (K' := 32) (z := (32, .inl (fun _ => 0))) (by decide) (by decide) rfl rfl (by decide) (by decide) (by decide) rfl rfl (by omega) (by omega) (fun c => ?_) hdg (fun q r cA H1 hinj _ hK1 hP1 hD1 hS1 => ?_)
  · rw [vp_cell_i, ← arrV_new]
    rfl
  have e := x_ty5 hK1
  subst e
  have el : va_pl ([] ++ (List.range 4).map r) (vr_up (fun _ => .inl (c 0, 32, .inl (fun _ => 0))) ((List.range 4).map r) (.inl (c 0, (32, .inl (fun _ => 0)) ))) = [(r 0, .inl (c 0, 32, .inl (fun _ => 0))), (r 1, .inl (c 0, 32, .inl (fun _ => 0))), (r 2, .inl (c 0, 32, .inl (fun _ => 0))), (r 3, .inl (c 0, 32, .inl (fun _ => 0)))] := by
    simp [va_pl, vr_up, List.range, List.range.loop]
  have eg : (fun i => if i < 4 then some (r i) else none) = (fun i => if i = 0 then some (r 0) else if i = 1 then some (r 1) else if i = 2 then some (r 2) else if i = 3 then some (r 3) else none) := by
    funext i
    by_cases h : i < 4
    · rcases x_lt4 h with rfl | rfl | rfl | rfl <;> rfl
    · rw [if_neg h, if_neg (by omega), if_neg (by omega), if_neg (by omega), if_neg (by omega)]
  rw [el, eg, List.append_assoc] at hP1 hD1
  exact kk q r H1 hP1 hD1 hS1
theorem x_retc {wf : (Nat → Nat) → va_W} {mc ms : Nat} (u : Nat → Nat) (hx : p.tables.exec = Jvm.exec) (hb : cd.code = cc) (hr : meth.sig.returnType = none) (hlocks : meth.locks = false) (hP : va_P D vwCl (wf u) H) (hD : va_D A (wf u)) (hK : va_K D vwCl (xT c) s) (hS : va_S A s.heap H locs) (hdg : decode cc pc = .ok (.return_, 1)) :
    W p l e R s m args below meth cd H locs mc ms (MQ below (xQc D (xT c) A wf) args s mc ms A) (F0 m pc ls []) :=
  W.vret hx hb hr (fun t ht hW => ⟨⟨u, rfl, trivial, x_end hP hD hK ht hW⟩, hS.F ht⟩) hS.2.2 hdg
end XNEW
section XCALLC
variable {p : Program} {l : Launch} {e : Env} {R : Room} {s : State} {m : MethodId} {args : Array Value} {below : List Frame} {meth : Method} {cd : Code} {H : Heap} {locs : List Loc} {Q : State → Prop} {cells slots mc ms : Nat}
variable {cc bytes : ByteArray} {pc nL maxL n index : Nat} {ls : Array Slot} {D : va_G} {c : Nat → ClassId} {A : Nat → Prop} {ws wc wr : va_W} {w1 wf : (Nat → Nat) → va_W} {Ts wsy : List Cond} {own host : String} {b : Addr} {rest st0 : List Value} {y : MethodName} {rm : Room} {Ev : State → Prop}
theorem x_runc {av : List Value} (hr : va_Run p l e R s m args below meth cd H locs cells slots mc ms (F0 m pc ls st0) rest (xQc D (xT c) (va_A wc H.size) w1 av.toArray) (va_A wc H.size)) (hP : va_P D vwCl ws H) (hD : va_D A ws) (hS : va_S A s.heap H locs) (hA : ∀ q, s.heap.size ≤ q → A q)
    (isC isR isF : List Nat) (hC : isC.map (fun i => ws[i]?) = wc.map some) (hR : isR.map (fun i => ws[i]?) = wr.map some) (hF : ∀ u, isF.map (fun i => (wr ++ w1 u)[i]?) = (wf u).map some) (hnd : va_nd isR = true ∧ va_nd isF = true ∧ ∀ i ∈ isR, i ∉ isC) (k1 k2 : Nat) (hc : cells + mc = k1 ∧ slots + ms = k2)
    (kk : ∀ (u : Nat → Nat) (H1 : Heap) (locs1 : List Loc), va_P D vwCl (wf u) H1 → va_D A (wf u) → va_S A s.heap H1 locs1 → W p l e R s m args below meth cd H1 locs1 k1 k2 Q (F0 m (pc + 3) ls rest)) : W p l e R s m args below meth cd H locs cells slots Q (F0 m pc ls st0) := by
  obtain ⟨rfl, rfl⟩ := hc
  have hFr := va_free hD hS hA isC hC
  refine va_callv hr hS (fun q _ h => hFr q h) hFr (fun u t H1 locs1 ht hvm _ hB hz hk hS1 => ?_)
  obtain ⟨b1, b2, b3⟩ := hB
  rw [ht] at b1
  obtain ⟨j1, j2⟩ := x_join hP hD isC isR isF hC hR (hF u) hnd hk hFr b1 b3
  exact kk u H1 locs1 j1 j2 hS1
theorem x_goIN (S : CallFix p m cd cc nL s args Ts own) (hM : Met l y wsy rm (xPc D (xT c) H.size [.ref b] wc Ev) (xQc D (xT c) (va_A wc H.size) w1) mc ms (va_A wc H.size)) (cw : va_CN R s args own index y host bytes maxL none wsy rm mc ms 0 ∧ y.name = "<init>" ∧ (Cond.instanceMethod y).before args s = true) (hEb : xB Ev)
    (hP : va_P D vwCl ws H) (hD : va_D A ws) (hK : va_K D vwCl (xT c) s) (isC : List Nat) (hC : isC.map (fun i => ws[i]?) = wc.map some) (hn : va_nd isC = true) (hE : ∀ U : State, U.heap = H → s.WarmedH U.vm → Ev U)
    (hsize : ls.size = nL) (hst : st0 = .ref b :: rest) (hW : (rest.map fun v => v.category).sum ≤ 8) (hdg : decode cc pc = .ok (.invokespecial index, 3)) (hf : cells + mc ≤ R.cells ∧ slots + ms ≤ R.slots) :
    va_Run p l e R s m args below meth cd H locs cells slots mc ms (F0 m pc ls st0) rest (xQc D (xT c) (va_A wc H.size) w1 [Value.ref b].toArray) (va_A wc H.size) := by
  obtain ⟨c1, c2⟩ := x_cut hP hD isC hC hn
  exact va_runIN (As := []) S hM cw ⟨x_blind hEb, x_pre c1 hK c2 hE⟩ rfl rfl hsize hst (lv_room hW) hdg hf
theorem x_goI (S : CallFix p m cd cc nL s args Ts own) (hM : Met l y wsy rm (xPc D (xT c) H.size [.ref b] wc Ev) (xQc D (xT c) (va_A wc H.size) w1) mc ms (va_A wc H.size)) (cw : CallB R s args own index y bytes maxL none wsy rm mc ms 0 ∧ y.name = "<init>" ∧ (Cond.instanceMethod y).before args s = true) (hEb : xB Ev)
    (hP : va_P D vwCl ws H) (hD : va_D A ws) (hK : va_K D vwCl (xT c) s) (isC : List Nat) (hC : isC.map (fun i => ws[i]?) = wc.map some) (hn : va_nd isC = true) (hE : ∀ U : State, U.heap = H → s.WarmedH U.vm → Ev U)
    (hsize : ls.size = nL) (hst : st0 = .ref b :: rest) (hW : (rest.map fun v => v.category).sum ≤ 8) (hdg : decode cc pc = .ok (.invokespecial index, 3)) (hf : cells + mc ≤ R.cells ∧ slots + ms ≤ R.slots) :
    va_Run p l e R s m args below meth cd H locs cells slots mc ms (F0 m pc ls st0) rest (xQc D (xT c) (va_A wc H.size) w1 [Value.ref b].toArray) (va_A wc H.size) := by
  obtain ⟨c1, c2⟩ := x_cut hP hD isC hC hn
  exact va_runI (As := []) S hM cw ⟨x_blind hEb, x_pre c1 hK c2 hE⟩ rfl rfl hsize hst (lv_room hW) hdg hf
end XCALLC
