theorem pu_offOnes_loop (n : Nat) {row : Nat → Int32} {p : Nat → Bool} {nl : Nat} (hnl : nl ≤ 5) (hr : row 17 = nI nl) (hp : ∀ l, l < nl → (row (4 + l) = -1 ↔ p l = true)) : ∀ (t l q : Nat), l + t = nl →
    fX8_offOnes_4 n row (q + t + 1) (nI (colB p l)) (nI l) = some (nI (colB p nl)) := by
  intro t
  induction t with
  | zero =>
    intro l q h
    have : l = nl := by omega
    subst this
    unfold fX8_offOnes_4
    rw [hr, if_pos (nI_le (Nat.le_refl _) (by omega))]
  | succ t ih =>
    intro l q h
    have e : q + (t + 1) + 1 = (q + t + 1) + 1 := by omega
    have e4 : (4 : Int32) + nI l = nI (4 + l) := nI_add 4 l
    have c1 := nI_inL (c := 4 + l) (N := 624) (by omega) (by decide)
    have e1 : (nI (4 + l)).toNatClampNeg = 4 + l := nI_clamp (by omega)
    have ih := ih (l + 1) q (by omega)
    rw [e]
    unfold fX8_offOnes_4
    rw [hr, if_neg (nI_ge (by omega) (by omega)), e4, e1, if_neg c1]
    unfold fX8_offOnes_35
    by_cases c : p l = true
    · rw [colB_1 c] at ih
      rw [if_pos ((hp l (by omega)).mpr c), pu_1shl (by omega), pu_or, nI_1]
      exact ih
    · rw [colB_0 c] at ih
      rw [if_neg (fun q => c ((hp l (by omega)).mp q)), nI_1, Int32.or_zero]
      exact ih
theorem pu_offOnes {n : Nat} (hn : 13 ≤ n) {row : Nat → Int32} {p : Nat → Bool} {nl : Nat} (hnl : nl ≤ 5) (hr : row 17 = nI nl) (hp : ∀ l, l < nl → (row (4 + l) = -1 ↔ p l = true)) : fX8_offOnes n row = some (nI (colB p nl)) := by
  unfold fX8_offOnes
  have h := pu_offOnes_loop n hnl hr hp nl 0 (n - nl - 1) (by omega)
  have e : n - nl - 1 + nl + 1 = n := by omega
  rw [e] at h
  exact h
/-- how many of the first k p holds of -/
def cntB (p : Nat → Bool) : Nat → Nat
  | 0 => 0
  | k + 1 => cntB p k + (if p k then 1 else 0)
theorem cntB_1 {p : Nat → Bool} {k : Nat} (h : p k = true) : cntB p (k + 1) = cntB p k + 1 := by
  show cntB p k + (if p k = true then 1 else 0) = _
  rw [if_pos h]
theorem cntB_0 {p : Nat → Bool} {k : Nat} (h : ¬ p k = true) : cntB p (k + 1) = cntB p k := by
  show cntB p k + (if p k = true then 1 else 0) = _
  rw [if_neg h, Nat.add_zero]
theorem pu_isMissing (n : Nat) (s : Int32) : fX5_isMissing n s = some (if s = -1 then 1 else 0) := by
  unfold fX5_isMissing fX5_isMissing_13
  by_cases c : s = -1
  · rw [if_pos c, if_pos c, if_pos (Or.inr rfl)]
  · rw [if_neg c, if_neg c, if_pos (Or.inl rfl)]
theorem pu_there_loop (n : Nat) {sort : Nat → Int32} {p : Nat → Bool} (hp : ∀ l, l < 4 → (sort l = -1 ↔ ¬ p l = true)) : ∀ (t l q : Nat), l + t = 4 →
    fX7_slatesThere_4 n sort (q + t + 1) (nI (cntB p l)) (nI l) = some (nI (cntB p 4)) := by
  intro t
  induction t with
  | zero =>
    intro l q h
    have : l = 4 := by omega
    subst this
    unfold fX7_slatesThere_4
    rw [if_pos (by decide)]
  | succ t ih =>
    intro l q h
    have e : q + (t + 1) + 1 = (q + t + 1) + 1 := by omega
    have c1 := nI_inL (c := l) (N := 4) (by omega) (by decide)
    have e1 : (nI l).toNatClampNeg = l := nI_clamp (by omega)
    have ih := ih (l + 1) q (by omega)
    rw [e]
    unfold fX7_slatesThere_4
    rw [if_neg (show ¬ (4 : Int32) ≤ nI l from nI_ge (b := 4) (by omega) (by decide)), e1, if_neg c1, pu_isMissing, Option.bind_some]
    unfold fX7_slatesThere_24
    by_cases c : p l = true
    · rw [cntB_1 c] at ih
      rw [if_neg (fun q => (hp l (by omega)).mp q c), if_pos rfl, nI_1, nI_1]
      exact ih
    · rw [cntB_0 c] at ih
      rw [if_pos ((hp l (by omega)).mpr c), if_neg (show ¬ (1 : Int32) = 0 by decide), nI_1]
      exact ih
theorem pu_thereM_loop (n : Nat) {sizes : Nat → Int32} {p : Nat → Bool} (hp : ∀ l, l < 4 → (0 ≤ sizes l ↔ p l = true)) : ∀ (t l q : Nat), l + t = 4 →
    fX8_slatesThere_4 n sizes (q + t + 1) (nI (cntB p l)) (nI l) = some (nI (cntB p 4)) := by
  intro t
  induction t with
  | zero =>
    intro l q h
    have : l = 4 := by omega
    subst this
    unfold fX8_slatesThere_4
    rw [if_pos (by decide)]
  | succ t ih =>
    intro l q h
    have e : q + (t + 1) + 1 = (q + t + 1) + 1 := by omega
    have c1 := nI_inL (c := l) (N := 4) (by omega) (by decide)
    have e1 : (nI l).toNatClampNeg = l := nI_clamp (by omega)
    have ih := ih (l + 1) q (by omega)
    rw [e]
    unfold fX8_slatesThere_4
    rw [if_neg (show ¬ (4 : Int32) ≤ nI l from nI_ge (b := 4) (by omega) (by decide)), e1, if_neg c1]
    unfold fX8_slatesThere_24
    by_cases c : p l = true
    · rw [cntB_1 c] at ih
      rw [if_pos ((hp l (by omega)).mpr c), nI_1, nI_1]
      exact ih
    · rw [cntB_0 c] at ih
      rw [if_neg (fun q => c ((hp l (by omega)).mp q)), nI_1, Int32.add_zero]
      exact ih
theorem ex_ite {c : Prop} [Decidable c] {a : Int32} {x : Option Int32} (h : ∃ r, x = some r) : ∃ r, (if c then some a else x) = some r := by
  by_cases k : c
  · rw [if_pos k]; exact ⟨a, rfl⟩
  · rw [if_neg k]; exact h
theorem ex_dup {x : Option Int32} (h : ∃ r, x = some r) : ∃ r, x = some r ∧ x = some r := h.elim fun r q => ⟨r, q, q⟩
/-- the call count -/
theorem pu_count {n : Nat} (hn : 13 ≤ n) {row knows on sort sizes : Nat → Int32} {nf nm nl : Nat} {K O : Nat → Nat} {p : Nat → Bool} {mi ba se un le : Int32} (hnm : nm ≤ 4) (hnl : nl ≤ 5) (h23 : row 23 = nI nf) (h16 : row 16 = nI nm) (h17 : row 17 = nI nl) (h15 : row 15 = mi) (h14 : row 14 = ba)
    (hK : ∀ j, j < nm → knows j = nI (K j) ∧ row (0 + j) = nI (K j)) (hO : ∀ j, j < nl → O j ≤ nm ∧ on j = onI (O j) ∧ row (4 + j) = onI (O j)) (hs : ∀ l, l < 4 → (sort l = -1 ↔ ¬ p l = true) ∧ (0 ≤ sizes l ↔ p l = true)) (v : Int32) :
    ∃ r, fX7_count n (nI nf) (nI nm) (nI nl) mi ba on knows se sort un le v = some r ∧ fX8_count n row se sizes un le v = some r := by
  unfold fX7_count fX8_count fX7_slatesThere fX8_slatesThere
  have l1 := pu_leechesOn hn (on := on) (v := -1) (p := fun l => decide (O l = 0)) hnl (fun l hl => by
    have := (hO l hl).1
    rw [(hO l hl).2.1]; exact onI_eq_n (by omega))
  have l2 := pu_offOnes hn (row := row) (p := fun l => decide (O l = 0)) hnl h17 (fun l hl => by
    have := (hO l hl).1
    rw [(hO l hl).2.2]; exact onI_eq_n (by omega))
  have k1 := pu_known hn hnm (fun j hj => (hK j hj).1)
  have k2 : fX8_knownBySome n row 0 = some (nI (orN K nm)) := pu_knownBy hn (b := 0) hnm (by decide) h16 (fun j hj => (hK j hj).2)
  have en : n - 5 + 4 + 1 = n := by omega
  have t1 := pu_there_loop n (fun l hl => (hs l hl).1) 4 0 (n - 5) rfl
  have t2 := pu_thereM_loop n (fun l hl => (hs l hl).2) 4 0 (n - 5) rfl
  rw [en] at t1 t2
  have t1' : fX7_slatesThere_4 n sort n 0 0 = some (nI (cntB p 4)) := t1
  have t2' : fX8_slatesThere_4 n sizes n 0 0 = some (nI (cntB p 4)) := t2
  rw [l1, l2, k1, k2, t1', t2', h23, h16, h17, h15, h14, Option.bind_some, Option.bind_some, Option.bind_some]
  apply ex_dup
  iterate 11 apply ex_ite
  exact ⟨_, rfl⟩
