/-! my own base: a contract's start and end with one world, calls with the frame rule in one row, rows for 'hr' -/
abbrev xT (c : Nat → ClassId) : List (ClassId × FieldType) := [(c 0, .int), (c 1, .long), (c 2, .boolean), (c 3, .object "LeechClub$Room"), (c 4, .object "LeechClub$Slate"), (c 5, .array .int)]
def xQi (D : va_G) (ty : List (ClassId × FieldType)) (A : Nat → Prop) (r : Int32) (ws : va_W) : Array Value → State → Outcome → State → Prop :=
  va_Qi (fun (x : Int32) (_ : Unit) => x = r) (fun _ t => va_P D vwCl ws t.heap ∧ va_K D vwCl ty t ∧ va_D A ws) A
def xQl (D : va_G) (ty : List (ClassId × FieldType)) (A : Nat → Prop) (r : Int64) (ws : va_W) : Array Value → State → Outcome → State → Prop :=
  va_Ql (fun (x : Int64) (_ : Unit) => x = r) (fun _ t => va_P D vwCl ws t.heap ∧ va_K D vwCl ty t ∧ va_D A ws) A
def xQv (D : va_G) (ty : List (ClassId × FieldType)) (A : Nat → Prop) (ws : va_W) : Array Value → State → Outcome → State → Prop :=
  va_Qv (fun (_ : Unit) => True) (fun _ t => va_P D vwCl ws t.heap ∧ va_K D vwCl ty t ∧ va_D A ws) A
def xPc (D : va_G) (ty : List (ClassId × FieldType)) (sz : Nat) (av : List Value) (ws : va_W) (Ev : State → Prop) : Array Value → State → Prop :=
  va_Pc av (fun U => U.heap.size = sz ∧ va_P D vwCl ws U.heap ∧ va_K D vwCl ty U ∧ va_D (fun _ => True) ws ∧ Ev U)
/-- what stays the same through a method's walk -/
def xE (p : Program) (s : State) (m : MethodId) (args : Array Value) (meth : Method) (cd : Code) (D : va_G) (ty : List (ClassId × FieldType)) (A : Nat → Prop) (own : String) (cc : ByteArray) (nL : Nat) (ret : Option FieldType) (ws : List Cond) : Prop :=
  p.tables.exec = Jvm.exec ∧ cd.code = cc ∧ cd.maxLocals = nL ∧ meth.sig.returnType = ret ∧ s.vm.findClass own = some m.cls ∧ (∀ w ∈ ws, w.before args s = true) ∧ meth.locks = false ∧ (∀ q, s.heap.size ≤ q → A q) ∧ va_K D vwCl ty s
theorem x_ift {c : Prop} [Decidable c] {α : Type} {a b r : α} (h : (if c then a else b) = r) (hc : c) : a = r := by rw [if_pos hc] at h; exact h
theorem x_iff {c : Prop} [Decidable c] {α : Type} {a b r : α} (h : (if c then a else b) = r) (hc : ¬ c) : b = r := by rw [if_neg hc] at h; exact h
theorem x_some {α : Type} {a b : α} (h : some a = some b) : a = b := Option.some.inj h
theorem x_p1 {α β : Type} {a c : α} {b d : β} (h : (a, b) = (c, d)) : a = c := (Prod.mk.inj h).1
theorem x_p2 {α β : Type} {a c : α} {b d : β} (h : (a, b) = (c, d)) : b = d := (Prod.mk.inj h).2
theorem x_bind {α β : Type} {o : Option α} {k : α → Option β} {r : β} (h : o.bind k = some r) : ∃ v, o = some v ∧ k v = some r := by
  cases o with
  | none => cases h
  | some v => exact ⟨v, rfl, h⟩
theorem x_chk {c : Prop} [Decidable c] {α : Type} {k : Option α} {r : α} (h : (if c then none else k) = some r) : ¬ c ∧ k = some r := by
  by_cases hc : c
  · rw [if_pos hc] at h; cases h
  · rw [if_neg hc] at h; exact ⟨hc, h⟩
theorem x_need {c : Prop} [Decidable c] {α : Type} {k : Option α} {r : α} (h : (if c then k else none) = some r) : c ∧ k = some r := by
  by_cases hc : c
  · rw [if_pos hc] at h; exact ⟨hc, h⟩
  · rw [if_neg hc] at h; cases h
theorem x_nz {v : Int32} (h : v = 0 ∨ v = 1) : narrow .boolean (.int v) = .int v := by rcases h with rfl | rfl <;> rfl
theorem x_in0 {i : Int32} {n : Nat} (h : ¬ (i < 0 ∨ n ≤ i.toNatClampNeg)) : i.toNatClampNeg < n := Nat.not_le.mp fun q => h (Or.inr q)
theorem x_lt2 {k : Nat} (h : k < 2) : k = 0 ∨ k = 1 := by omega
theorem x_lt4 {k : Nat} (h : k < 4) : k = 0 ∨ k = 1 ∨ k = 2 ∨ k = 3 := by omega
theorem x_lt8 {k : Nat} (h : k < 8) : k = 0 ∨ k = 1 ∨ k = 2 ∨ k = 3 ∨ k = 4 ∨ k = 5 ∨ k = 6 ∨ k = 7 := by omega
section XRET
variable {p : Program} {l : Launch} {e : Env} {R : Room} {s : State} {m : MethodId} {args : Array Value} {below : List Frame} {meth : Method} {cd : Code} {H : Heap} {locs : List Loc} {cc : ByteArray} {pc : Nat} {ls : Array Slot} {D : va_G} {ty : List (ClassId × FieldType)} {A : Nat → Prop} {ws : va_W}
theorem x_end (hP : va_P D vwCl ws H) (hD : va_D A ws) (hK : va_K D vwCl ty s) {t : State} (ht : t.heap = H) (hW : s.WarmedH t.vm) : va_P D vwCl ws t.heap ∧ va_K D vwCl ty t ∧ va_D A ws :=
  ⟨by rw [ht]; exact hP, va_K.moved hW.alike hK, hD⟩
theorem x_reti {v : Int32} (hx : p.tables.exec = Jvm.exec) (hb : cd.code = cc) (hr : meth.sig.returnType = some .int) (hlocks : meth.locks = false) (hP : va_P D vwCl ws H) (hD : va_D A ws) (hK : va_K D vwCl ty s) (hS : va_S A s.heap H locs) (hdg : decode cc pc = .ok (.ireturn, 1)) :
    W p l e R s m args below meth cd H locs 0 0 (MQ below (xQi D ty A v ws) args s 0 0 A) (F0 m pc ls [.int v]) :=
  W.iret hx hb hr (fun t ht hW => ⟨⟨v, (), rfl, rfl, x_end hP hD hK ht hW⟩, hS.F ht⟩) hS.2.2 hdg
theorem x_retz {v : Int32} {rt : FieldType} (hx : p.tables.exec = Jvm.exec) (hb : cd.code = cc) (hr : meth.sig.returnType = some rt) (hn : narrow rt (.int v) = .int v) (hlocks : meth.locks = false) (hP : va_P D vwCl ws H) (hD : va_D A ws) (hK : va_K D vwCl ty s) (hS : va_S A s.heap H locs) (hdg : decode cc pc = .ok (.ireturn, 1)) :
    W p l e R s m args below meth cd H locs 0 0 (MQ below (xQi D ty A v ws) args s 0 0 A) (F0 m pc ls [.int v]) :=
  W.zret hx hb hr hn (fun t ht hW => ⟨⟨v, (), rfl, rfl, x_end hP hD hK ht hW⟩, hS.F ht⟩) hS.2.2 hdg
theorem x_retl {v : Int64} (hx : p.tables.exec = Jvm.exec) (hb : cd.code = cc) (hr : meth.sig.returnType = some .long) (hlocks : meth.locks = false) (hP : va_P D vwCl ws H) (hD : va_D A ws) (hK : va_K D vwCl ty s) (hS : va_S A s.heap H locs) (hdg : decode cc pc = .ok (.lreturn, 1)) :
    W p l e R s m args below meth cd H locs 0 0 (MQ below (xQl D ty A v ws) args s 0 0 A) (F0 m pc ls [.long v]) :=
  W.lret hx hb hr (fun t ht hW => ⟨⟨v, (), rfl, rfl, x_end hP hD hK ht hW⟩, hS.F ht⟩) hS.2.2 hdg
theorem x_retv (hx : p.tables.exec = Jvm.exec) (hb : cd.code = cc) (hr : meth.sig.returnType = none) (hlocks : meth.locks = false) (hP : va_P D vwCl ws H) (hD : va_D A ws) (hK : va_K D vwCl ty s) (hS : va_S A s.heap H locs) (hdg : decode cc pc = .ok (.return_, 1)) :
    W p l e R s m args below meth cd H locs 0 0 (MQ below (xQv D ty A ws) args s 0 0 A) (F0 m pc ls []) :=
  W.vret hx hb hr (fun t ht hW => ⟨⟨(), rfl, trivial, x_end hP hD hK ht hW⟩, hS.F ht⟩) hS.2.2 hdg
end XRET
/-- an environment that a call keeps -/
def xB (Ev : State → Prop) : Prop := ∀ (a : Array Value) (U : State) (g : JFrame) (mk : MethodId), Ev U → Ev (U.calling g mk a)
theorem xB_t : xB (fun _ => True) := fun _ _ _ _ _ => trivial
theorem x_blind {D : va_G} {ty : List (ClassId × FieldType)} {sz : Nat} {av : List Value} {ws : va_W} {Ev : State → Prop} (h : xB Ev) : FrameBlind (xPc D ty sz av ws Ev) :=
  fun a U g mk q => by
    obtain ⟨q0, q1, qP, qK, qD, qE⟩ := q
    exact ⟨q0, q1, qP, va_K.moved (u := U) (U := U.calling g mk a) (Vm.Alike.refl U.vm) qK, qD, h a U g mk qE⟩
theorem x_pre {s : State} {H : Heap} {D : va_G} {ty : List (ClassId × FieldType)} {av : List Value} {wc : va_W} {Ev : State → Prop} {A : Nat → Prop} (hP : va_P D vwCl wc H) (hK : va_K D vwCl ty s) (hD : va_D A wc) (hE : ∀ U : State, U.heap = H → s.WarmedH U.vm → Ev U) : ∀ U : State, U.heap = H → s.WarmedH U.vm → xPc D ty H.size av wc Ev av.toArray U :=
  fun U hU hW => ⟨rfl, by rw [hU], by rw [hU]; exact hP, va_K.moved hW.alike hK, hD.weaken (fun _ _ _ _ => trivial), hE U hU hW⟩
section XCALL
variable {p : Program} {l : Launch} {e : Env} {R : Room} {s : State} {m : MethodId} {args : Array Value} {below : List Frame} {meth : Method} {cd : Code} {H : Heap} {locs : List Loc} {Q : State → Prop}
variable {cc bytes : ByteArray} {pc nL maxL n index : Nat} {ret : Option FieldType} {ls : Array Slot} {D : va_G} {ty : List (ClassId × FieldType)} {A : Nat → Prop} {ws wc wr w1 wf : va_W} {Ts wsy : List Cond} {own C : String} {b : Addr} {As rest st0 : List Value} {y : MethodName} {rm : Room} {Ev : State → Prop} {av : List Value}
/-- behind a call: the caller's world again -/
theorem x_join {H1 : Heap} (hP : va_P D vwCl ws H) (hD : va_D A ws) (isC isR isF : List Nat) (hC : isC.map (fun i => ws[i]?) = wc.map some) (hR : isR.map (fun i => ws[i]?) = wr.map some) (hF : isF.map (fun i => (wr ++ w1)[i]?) = wf.map some) (hnd : va_nd isR = true ∧ va_nd isF = true ∧ ∀ i ∈ isR, i ∉ isC)
    (hk : ∀ q : Nat, q < H.size → ¬ va_A wc H.size q → H1[q]? = H[q]?) (hFr : ∀ q, va_A wc H.size q → A q) (hP1 : va_P D vwCl w1 H1) (hD1 : va_D (va_A wc H.size) w1) : va_P D vwCl wf H1 ∧ va_D A wf := by
  obtain ⟨q1, q2⟩ := va_join hP hD isC isR hC hR hnd.1 hnd.2.2 hk hFr hP1 hD1
  refine ⟨fun k q hq => ?_, q2.sub isF hnd.2.1 hF⟩
  have h1 : (isF.map (fun i => (wr ++ w1)[i]?))[k]? = some (some q) := by rw [hF, List.getElem?_map, hq]; rfl
  rw [List.getElem?_map] at h1
  cases hi : isF[k]? with
  | none => rw [hi] at h1; cases h1
  | some i => rw [hi] at h1; exact q1 i q (Option.some.inj h1)
theorem x_cut (hP : va_P D vwCl ws H) (hD : va_D A ws) (isC : List Nat) (hC : isC.map (fun i => ws[i]?) = wc.map some) (hn : va_nd isC = true) : va_P D vwCl wc H ∧ va_D A wc := by
  refine ⟨fun k q hq => ?_, hD.sub isC hn hC⟩
  have h1 : (isC.map (fun i => ws[i]?))[k]? = some (some q) := by rw [hC, List.getElem?_map, hq]; rfl
  rw [List.getElem?_map] at h1
  cases hi : isC[k]? with
  | none => rw [hi] at h1; cases h1
  | some i => rw [hi] at h1; exact hP i q (Option.some.inj h1)
theorem x_runi {r : Int32} (hr : va_Run p l e R s m args below meth cd H locs 0 0 0 0 (F0 m pc ls st0) rest (xQi D ty (va_A wc H.size) r w1 av.toArray) (va_A wc H.size)) (hP : va_P D vwCl ws H) (hD : va_D A ws) (hS : va_S A s.heap H locs) (hA : ∀ q, s.heap.size ≤ q → A q)
    (isC isR isF : List Nat) (hC : isC.map (fun i => ws[i]?) = wc.map some) (hR : isR.map (fun i => ws[i]?) = wr.map some) (hF : isF.map (fun i => (wr ++ w1)[i]?) = wf.map some) (hnd : va_nd isR = true ∧ va_nd isF = true ∧ ∀ i ∈ isR, i ∉ isC)
    (kk : ∀ (H1 : Heap) (locs1 : List Loc), va_P D vwCl wf H1 → va_D A wf → va_S A s.heap H1 locs1 → W p l e R s m args below meth cd H1 locs1 0 0 Q (F0 m (pc + 3) ls (.int r :: rest))) : W p l e R s m args below meth cd H locs 0 0 Q (F0 m pc ls st0) := by
  have hFr := va_free hD hS hA isC hC
  refine va_calli hr hS (fun q _ h => hFr q h) hFr (fun x u t H1 locs1 ht hvm hxr hB hz hk hS1 => ?_)
  obtain ⟨b1, b2, b3⟩ := hB
  rw [ht] at b1
  obtain ⟨j1, j2⟩ := x_join hP hD isC isR isF hC hR hF hnd hk hFr b1 b3
  rw [hxr]
  exact kk H1 locs1 j1 j2 hS1
theorem x_runl {r : Int64} (hr : va_Run p l e R s m args below meth cd H locs 0 0 0 0 (F0 m pc ls st0) rest (xQl D ty (va_A wc H.size) r w1 av.toArray) (va_A wc H.size)) (hP : va_P D vwCl ws H) (hD : va_D A ws) (hS : va_S A s.heap H locs) (hA : ∀ q, s.heap.size ≤ q → A q)
    (isC isR isF : List Nat) (hC : isC.map (fun i => ws[i]?) = wc.map some) (hR : isR.map (fun i => ws[i]?) = wr.map some) (hF : isF.map (fun i => (wr ++ w1)[i]?) = wf.map some) (hnd : va_nd isR = true ∧ va_nd isF = true ∧ ∀ i ∈ isR, i ∉ isC)
    (kk : ∀ (H1 : Heap) (locs1 : List Loc), va_P D vwCl wf H1 → va_D A wf → va_S A s.heap H1 locs1 → W p l e R s m args below meth cd H1 locs1 0 0 Q (F0 m (pc + 3) ls (.long r :: rest))) : W p l e R s m args below meth cd H locs 0 0 Q (F0 m pc ls st0) := by
  have hFr := va_free hD hS hA isC hC
  refine va_calll hr hS (fun q _ h => hFr q h) hFr (fun x u t H1 locs1 ht hvm hxr hB hz hk hS1 => ?_)
  obtain ⟨b1, b2, b3⟩ := hB
  rw [ht] at b1
  obtain ⟨j1, j2⟩ := x_join hP hD isC isR isF hC hR hF hnd hk hFr b1 b3
  rw [hxr]
  exact kk H1 locs1 j1 j2 hS1
theorem x_runv (hr : va_Run p l e R s m args below meth cd H locs 0 0 0 0 (F0 m pc ls st0) rest (xQv D ty (va_A wc H.size) w1 av.toArray) (va_A wc H.size)) (hP : va_P D vwCl ws H) (hD : va_D A ws) (hS : va_S A s.heap H locs) (hA : ∀ q, s.heap.size ≤ q → A q)
    (isC isR isF : List Nat) (hC : isC.map (fun i => ws[i]?) = wc.map some) (hR : isR.map (fun i => ws[i]?) = wr.map some) (hF : isF.map (fun i => (wr ++ w1)[i]?) = wf.map some) (hnd : va_nd isR = true ∧ va_nd isF = true ∧ ∀ i ∈ isR, i ∉ isC)
    (kk : ∀ (H1 : Heap) (locs1 : List Loc), va_P D vwCl wf H1 → va_D A wf → va_S A s.heap H1 locs1 → W p l e R s m args below meth cd H1 locs1 0 0 Q (F0 m (pc + 3) ls rest)) : W p l e R s m args below meth cd H locs 0 0 Q (F0 m pc ls st0) := by
  have hFr := va_free hD hS hA isC hC
  refine va_callv hr hS (fun q _ h => hFr q h) hFr (fun u t H1 locs1 ht hvm _ hB hz hk hS1 => ?_)
  obtain ⟨b1, b2, b3⟩ := hB
  rw [ht] at b1
  obtain ⟨j1, j2⟩ := x_join hP hD isC isR isF hC hR hF hnd hk hFr b1 b3
  exact kk H1 locs1 j1 j2 hS1
/-- the run of a virtual call of an own method -/
theorem x_goV {Qc : Array Value → State → Outcome → State → Prop} (S : CallFix p m cd cc nL s args Ts own) (hM : Met l y wsy rm (xPc D ty H.size (.ref b :: As) wc Ev) Qc 0 0 (va_A wc H.size)) (cw : CallW R s args own C index y bytes maxL ret wsy rm 0 0 n) (hEb : xB Ev)
    (hP : va_P D vwCl ws H) (hD : va_D A ws) (hK : va_K D vwCl ty s) (isC : List Nat) (hC : isC.map (fun i => ws[i]?) = wc.map some) (hn : va_nd isC = true) (hE : ∀ U : State, U.heap = H → s.WarmedH U.vm → Ev U) (qr ci : Nat) {r : vw_C} {fs : List Value} (hcl : vwCl[ci]? = some r) (hrC : r.1 = C) (he : ws[qr]? = some (b, .inr (ci, fs)))
    (hAn : As.length = n) (hsize : ls.size = nL) (hst : st0 = As.reverse ++ .ref b :: rest) (hW : (rest.map fun v => v.category).sum ≤ 8) (hdg : decode cc pc = .ok (.invokevirtual index, 3)) :
    va_Run p l e R s m args below meth cd H locs 0 0 0 0 (F0 m pc ls st0) rest (Qc (Value.ref b :: As).toArray) (va_A wc H.size) := by
  obtain ⟨c1, c2⟩ := x_cut hP hD isC hC hn
  subst hrC
  exact va_runV S hM cw ⟨x_blind hEb, va_recv hK hP hcl he, x_pre c1 hK c2 hE⟩ rfl hAn hsize hst (lv_room hW) hdg ⟨Nat.zero_le _, Nat.zero_le _⟩
theorem x_goS {Qc : Array Value → State → Outcome → State → Prop} (S : CallFix p m cd cc nL s args Ts own) (hM : Met l y wsy rm (xPc D ty H.size As wc Ev) Qc 0 0 (va_A wc H.size)) (cw : CallB R s args own index y bytes maxL ret wsy rm 0 0 n ∧ (Cond.static y).before args s = true) (hEb : xB Ev)
    (hP : va_P D vwCl ws H) (hD : va_D A ws) (hK : va_K D vwCl ty s) (isC : List Nat) (hC : isC.map (fun i => ws[i]?) = wc.map some) (hn : va_nd isC = true) (hE : ∀ U : State, U.heap = H → s.WarmedH U.vm → Ev U)
    (hAn : As.length = n) (hsize : ls.size = nL) (hst : st0 = As.reverse ++ rest) (hW : (rest.map fun v => v.category).sum ≤ 8) (hdg : decode cc pc = .ok (.invokestatic index, 3)) :
    va_Run p l e R s m args below meth cd H locs 0 0 0 0 (F0 m pc ls st0) rest (Qc As.toArray) (va_A wc H.size) := by
  obtain ⟨c1, c2⟩ := x_cut hP hD isC hC hn
  exact va_runS S hM cw ⟨x_blind hEb, x_pre c1 hK c2 hE⟩ rfl hAn hsize hst (lv_room hW) hdg ⟨Nat.zero_le _, Nat.zero_le _⟩
theorem x_goSN {Qc : Array Value → State → Outcome → State → Prop} {host : String} (S : CallFix p m cd cc nL s args Ts own) (hM : Met l y wsy rm (xPc D ty H.size As wc Ev) Qc 0 0 (va_A wc H.size)) (cw : va_CN R s args own index y host bytes maxL ret wsy rm 0 0 n ∧ (Cond.static y).before args s = true ∧ True) (hEb : xB Ev)
    (hP : va_P D vwCl ws H) (hD : va_D A ws) (hK : va_K D vwCl ty s) (isC : List Nat) (hC : isC.map (fun i => ws[i]?) = wc.map some) (hn : va_nd isC = true) (hE : ∀ U : State, U.heap = H → s.WarmedH U.vm → Ev U)
    (hAn : As.length = n) (hsize : ls.size = nL) (hst : st0 = As.reverse ++ rest) (hW : (rest.map fun v => v.category).sum ≤ 8) (hdg : decode cc pc = .ok (.invokestatic index, 3)) :
    va_Run p l e R s m args below meth cd H locs 0 0 0 0 (F0 m pc ls st0) rest (Qc As.toArray) (va_A wc H.size) := by
  obtain ⟨c1, c2⟩ := x_cut hP hD isC hC hn
  exact va_runSN S hM cw ⟨x_blind hEb, x_pre c1 hK c2 hE⟩ rfl hAn hsize hst (lv_room hW) hdg ⟨Nat.zero_le _, Nat.zero_le _⟩
end XCALL
/-- eight rows turned by one -/
def xr8 {α : Type} (f : Nat → α) : Nat → α := fun j => if j < 8 then (if j = 7 then f 0 else f (j + 1)) else f j
theorem x_rothp {x : Nat → Option Nat} {a : Nat → Nat} (h : ∀ j, j < 8 → x j = some (a j)) : ∀ j, j < 8 → xr8 x j = some (xr8 a j) := by
  intro j hj
  unfold xr8
  rw [if_pos hj, if_pos hj]
  by_cases e : j = 7
  · rw [if_pos e, if_pos e]; exact h 0 (by omega)
  · rw [if_neg e, if_neg e]; exact h (j + 1) (by omega)
theorem x_rot8 {x : Nat → Option Nat} {a : Nat → Nat} (h : ∀ j, j < 8 → x j = some (a j)) : (va_up (va_up (va_up (va_up (va_up (va_up (va_up (va_up x 0 (some (a 1))) 1 (some (a 2))) 2 (some (a 3))) 3 (some (a 4))) 4 (some (a 5))) 5 (some (a 6))) 6 (some (a 7))) 7 (some (a 0))) = xr8 x := by
  funext j
  by_cases hj : j < 8
  · rcases x_lt8 hj with rfl | rfl | rfl | rfl | rfl | rfl | rfl | rfl <;> simp [va_up, xr8, h]
  · have n0 : j ≠ 0 := by omega
    have n1 : j ≠ 1 := by omega
    have n2 : j ≠ 2 := by omega
    have n3 : j ≠ 3 := by omega
    have n4 : j ≠ 4 := by omega
    have n5 : j ≠ 5 := by omega
    have n6 : j ≠ 6 := by omega
    have n7 : j ≠ 7 := by omega
    simp [va_up, xr8, hj, n0, n1, n2, n3, n4, n5, n6, n7]
theorem x_fz {v : Int32} (h : v = 0 ∨ v = 1) : fits .boolean (.int v) = true := by rcases h with rfl | rfl <;> rfl
theorem x_cp1 {a b n : Int32} {s d : Nat} (h : ¬ (a < 0 ∨ b < 0 ∨ n < 0 ∨ s < a.toNatClampNeg + n.toNatClampNeg ∨ d < b.toNatClampNeg + n.toNatClampNeg)) : ¬ a < 0 := fun q => h (Or.inl q)
theorem x_cp2 {a b n : Int32} {s d : Nat} (h : ¬ (a < 0 ∨ b < 0 ∨ n < 0 ∨ s < a.toNatClampNeg + n.toNatClampNeg ∨ d < b.toNatClampNeg + n.toNatClampNeg)) : ¬ b < 0 := fun q => h (Or.inr (Or.inl q))
theorem x_cp3 {a b n : Int32} {s d : Nat} (h : ¬ (a < 0 ∨ b < 0 ∨ n < 0 ∨ s < a.toNatClampNeg + n.toNatClampNeg ∨ d < b.toNatClampNeg + n.toNatClampNeg)) : ¬ n < 0 := fun q => h (Or.inr (Or.inr (Or.inl q)))
theorem x_cp4 {a b n : Int32} {s d : Nat} (h : ¬ (a < 0 ∨ b < 0 ∨ n < 0 ∨ s < a.toNatClampNeg + n.toNatClampNeg ∨ d < b.toNatClampNeg + n.toNatClampNeg)) : a.toNatClampNeg + n.toNatClampNeg ≤ s := Nat.not_lt.mp fun q => h (Or.inr (Or.inr (Or.inr (Or.inl q))))
theorem x_cp5 {a b n : Int32} {s d : Nat} (h : ¬ (a < 0 ∨ b < 0 ∨ n < 0 ∨ s < a.toNatClampNeg + n.toNatClampNeg ∨ d < b.toNatClampNeg + n.toNatClampNeg)) : b.toNatClampNeg + n.toNatClampNeg ≤ d := Nat.not_lt.mp fun q => h (Or.inr (Or.inr (Or.inr (Or.inr q))))
section XCALLR
variable {p : Program} {l : Launch} {e : Env} {R : Room} {s : State} {m : MethodId} {args : Array Value} {below : List Frame} {meth : Method} {cd : Code} {H : Heap} {locs : List Loc} {Q : State → Prop}
variable {cc bytes : ByteArray} {pc nL maxL n index : Nat} {ret : Option FieldType} {ls : Array Slot} {D : va_G} {ty : List (ClassId × FieldType)} {A : Nat → Prop} {ws wc wr w1 wf : va_W} {Ts wsy : List Cond} {own C : String} {b : Addr} {As rest st0 : List Value} {y : MethodName} {rm : Room} {Ev : State → Prop} {av : List Value}
/-- the run of a virtual call whose receiver is no cell of the world -/
theorem x_goVr {Qc : Array Value → State → Outcome → State → Prop} (S : CallFix p m cd cc nL s args Ts own) (hM : Met l y wsy rm (xPc D ty H.size (.ref b :: As) wc Ev) Qc 0 0 (va_A wc H.size)) (cw : CallW R s args own C index y bytes maxL ret wsy rm 0 0 n) (hEb : xB Ev)
    (hP : va_P D vwCl ws H) (hD : va_D A ws) (hK : va_K D vwCl ty s) (isC : List Nat) (hC : isC.map (fun i => ws[i]?) = wc.map some) (hn : va_nd isC = true) (hE : ∀ U : State, U.heap = H → s.WarmedH U.vm → Ev U) (hrecv : ∃ cell : Cell, H[b]? = some cell ∧ cell.vm.isStatics = false ∧ s.vm.findClass C = some cell.cls)
    (hAn : As.length = n) (hsize : ls.size = nL) (hst : st0 = As.reverse ++ .ref b :: rest) (hW : (rest.map fun v => v.category).sum ≤ 8) (hdg : decode cc pc = .ok (.invokevirtual index, 3)) :
    va_Run p l e R s m args below meth cd H locs 0 0 0 0 (F0 m pc ls st0) rest (Qc (Value.ref b :: As).toArray) (va_A wc H.size) := by
  obtain ⟨c1, c2⟩ := x_cut hP hD isC hC hn
  exact va_runV S hM cw ⟨x_blind hEb, hrecv, x_pre c1 hK c2 hE⟩ rfl hAn hsize hst (lv_room hW) hdg ⟨Nat.zero_le _, Nat.zero_le _⟩
end XCALLR
section XGRID
variable {p : Program} {l : Launch} {e : Env} {R : Room} {s : State} {m : MethodId} {args : Array Value} {below : List Frame} {meth : Method} {cd : Code} {H : Heap} {locs : List Loc} {cells slots : Nat} {Q : State → Prop}
variable {cc : ByteArray} {pc : Nat} {ls : Array Slot} {rest : List Value} {D : va_G} {cl : List vw_C} {A : Nat → Prop} {a : Nat} {tys : List (ClassId × FieldType)} {ws : va_W}
/-- a row of a grid is read -/
theorem x_aldg (hexec : p.tables.exec = Jvm.exec) (hb : cd.code = cc) (hK : va_K D cl tys s) (hP : va_P D cl ws H) (q0 t0 : Nat) {cA : ClassId} {ty : FieldType} {n : Nat} {f : Nat → Option Nat} (ha : ws[q0]? = some (a, .inl (cA, n, .inr (.inr (.inr (.inr f)))))) (ht : tys[t0]? = some (cA, .array ty)) {i : Int32} (hin : vp_in i n) (hdg : decode cc pc = .ok (.aaload, 1))
    (kk : W p l e R s m args below meth cd H locs cells slots Q (F0 m (pc + 1) ls (va_rf (f i.toNatClampNeg) :: rest))) : W p l e R s m args below meth cd H locs cells slots Q (F0 m pc ls (.int i :: .ref a :: rest)) := by
  have hlt : i.toNatClampNeg < n := Nat.not_le.mp fun q => hin (Or.inr q)
  refine W.aald (v := va_rf (f i.toNatClampNeg)) (ty := .array ty) hexec hb (hP q0 _ ha) ((hK.2 t0 _ ht).1 n (fun j => va_rf (f j))) rfl (fun q => by cases q) ?_ ?_ rfl rfl hdg kk
  · show ¬ (i < 0 ∨ (arrV _ _ _).slots.size ≤ _)
    rw [arrV_size]
    exact hin
  · show (arrV _ _ _).slots[_]? = _
    rw [arrV_read _ _ hlt]
end XGRID
theorem x_vin {i : Int32} {n k : Nat} (e : i.toNatClampNeg = k) (h : ¬ (i < 0 ∨ n ≤ k)) : vp_in i n := by unfold vp_in; rw [e]; exact h
/-- what 'arrayOver' says of an array of arrays -/
theorem x_over {A : Array Value} {s : State} {t : FieldType} (h : (Cond.arrayOver (.array t)).before A s = true) : ∃ comp c k, s.vm.findClass (FieldType.array t).toString = some comp ∧ (s.vm.classes.findIdx? fun (x : Class) => match x.kind with | .array component _ => component == comp | _ => false) = some c ∧ s.vm.classes[c]? = some k ∧ k.kind = .array comp (.array t) ∧ s.vm.findClass ("[" ++ (FieldType.array t).toString) = some c := by
  simp only [Cond.before, Cond.holds, Cond.value, beq_iff_eq] at h
  cases hc : s.vm.findClass (FieldType.array t).toString with
  | none => simp [hc] at h
  | some comp =>
    simp only [hc, Option.bind_some, Option.bind_eq_some_iff, Option.map_eq_some_iff] at h
    obtain ⟨c, hi, k, hk, hb⟩ := h
    obtain ⟨hlt, hp, -⟩ := Array.findIdx?_eq_some_iff_getElem.mp hi
    have hkk : s.vm.classes[c] = k := (Array.getElem?_eq_some_iff.mp hk).2
    rw [hkk] at hp
    cases hkind : k.kind with
    | array component ty =>
      rw [hkind] at hb hp
      simp at hb hp
      exact ⟨comp, c, k, rfl, hi, hk, by rw [hkind, hp, hb.1], hb.2⟩
    | _ => rw [hkind] at hb; simp at hb
theorem x_aoa_moved {t : FieldType} {u U : State} (hvm : u.vm.Alike U.vm) (h : va_AOA t u) : va_AOA t U := by
  obtain ⟨comp, c, k, h1, h2, h3, h4, h5⟩ := x_over h
  obtain ⟨k', hk', he⟩ := hvm.2.2 _ _ h3
  have hi : (U.vm.classes.findIdx? fun (x : Class) => match x.kind with | .array component _ => component == comp | _ => false) = some c := by
    have e : U.vm.bare = u.vm.bare := by first | exact hvm.bare_eq | exact hvm.bare_eq.symm
    have a := va_idx_bare U.vm comp
    rw [e] at a
    exact a.symm.trans ((va_idx_bare u.vm comp).trans h2)
  have hkind : k'.kind = .array comp (.array t) := by rw [he]; exact h4
  have f1 : U.vm.findClass (FieldType.array t).toString = some comp := by rw [hvm.findClass]; exact h1
  have f2 : U.vm.findClass ("[" ++ (FieldType.array t).toString) = some c := by rw [hvm.findClass]; exact h5
  unfold va_AOA
  simp only [Cond.before, Cond.holds, Cond.value, f1, Option.bind_some, beq_iff_eq]
  rw [Option.bind_eq_some_iff]
  refine ⟨c, hi, ?_⟩
  simp [hk', hkind, f2]
/-- the arrays' classes, by the tables' words -/
theorem x_tys {D : va_G} {s : State} {a0 a1 a2 a3 a4 a5 : Array Value} (hK : ∀ (k : Nat) (q : vw_C), vwCl[k]? = some q → u_Kn s q.1 q.2.1 q.2.2 (D.1 k) (D.2 k)) (h0 : (Cond.arrayClass .int).before a0 s = true) (h1 : (Cond.arrayClass .long).before a1 s = true) (h2 : (Cond.arrayClass .boolean).before a2 s = true) (h3 : va_AO "LeechClub$Room" s) (h4 : va_AO "LeechClub$Slate" s) (h5 : va_AOA .int s) : ∃ c : Nat → ClassId, va_K D vwCl (xT c) s := by
  obtain ⟨c0, k0, p0, f0, g0, e0⟩ := Cond.arrayClass_spec h0
  obtain ⟨c1, k1, p1, f1, g1, e1⟩ := Cond.arrayClass_spec h1
  obtain ⟨c2, k2, p2, f2, g2, e2⟩ := Cond.arrayClass_spec h2
  obtain ⟨p3, c3, k3, m3, -, g3, e3, f3⟩ := Cond.arrayOver_spec (va_AO.use (A := #[]) h3)
  obtain ⟨p4, c4, k4, m4, -, g4, e4, f4⟩ := Cond.arrayOver_spec (va_AO.use (A := #[]) h4)
  obtain ⟨p5, c5, k5, m5, -, g5, e5, f5⟩ := x_over (va_AOA.use (A := #[]) h5)
  refine ⟨fun i => if i = 0 then c0 else if i = 1 then c1 else if i = 2 then c2 else if i = 3 then c3 else if i = 4 then c4 else c5, hK, fun k q hq => ?_⟩
  match k, hq with
  | 0, hq => cases hq; exact ⟨fun n z => ⟨fun k h => (by cases h), k0, g0, p0, e0⟩, f0⟩
  | 1, hq => cases hq; exact ⟨fun n z => ⟨fun k h => (by cases h), k1, g1, p1, e1⟩, f1⟩
  | 2, hq => cases hq; exact ⟨fun n z => ⟨fun k h => (by cases h), k2, g2, p2, e2⟩, f2⟩
  | 3, hq => cases hq; exact ⟨fun n z => ⟨fun k h => (by cases h), k3, g3, p3, e3⟩, k3, p3, g3, e3, m3, f3⟩
  | 4, hq => cases hq; exact ⟨fun n z => ⟨fun k h => (by cases h), k4, g4, p4, e4⟩, k4, p4, g4, e4, m4, f4⟩
  | 5, hq => cases hq; exact ⟨fun n z => ⟨fun k h => (by cases h), k5, g5, p5, e5⟩, f5⟩
  | k + 6, hq => simp [xT] at hq
