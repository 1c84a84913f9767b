/-- the set of those below N that p holds of -/
def colB (p : Nat → Bool) : Nat → Nat
  | 0 => 0
  | k + 1 => colB p k ||| (if p k then 2 ^ k else 0)
theorem colB_1 {p : Nat → Bool} {k : Nat} (h : p k = true) : colB p (k + 1) = colB p k ||| 2 ^ k := by
  show colB p k ||| (if p k = true then 2 ^ k else 0) = _
  rw [if_pos h]
theorem colB_0 {p : Nat → Bool} {k : Nat} (h : ¬ p k = true) : colB p (k + 1) = colB p k := by
  show colB p k ||| (if p k = true then 2 ^ k else 0) = _
  rw [if_neg h, Nat.or_zero]
theorem pu_leechesOn_loop (n : Nat) {on : Nat → Int32} {v : Int32} {p : Nat → Bool} {nl : Nat} (hnl : nl ≤ 5) (hp : ∀ l, l < nl → (on l = v ↔ p l = true)) : ∀ (t l q : Nat), l + t = nl →
    fX3_leechesOn_4 n (nI nl) on (q + t + 1) v (nI (colB p l)) (nI l) = some (nI (colB p nl)) := by
  intro t
  induction t with
  | zero =>
    intro l q h
    have : l = nl := by omega
    subst this
    unfold fX3_leechesOn_4
    rw [if_pos (nI_le (Nat.le_refl _) (by omega))]
  | succ t ih =>
    intro l q h
    have e : q + (t + 1) + 1 = (q + t + 1) + 1 := by omega
    have c1 := nI_inL (c := l) (N := 5) (by omega) (by decide)
    have e1 : (nI l).toNatClampNeg = l := nI_clamp (by omega)
    have ih := ih (l + 1) q (by omega)
    rw [e]
    unfold fX3_leechesOn_4
    rw [if_neg (nI_ge (by omega) (by omega)), e1, if_neg c1]
    by_cases c : p l = true
    · rw [colB_1 c] at ih
      rw [if_pos ((hp l (by omega)).mpr c), pu_1shl (by omega), pu_or]
      unfold fX3_leechesOn_28
      rw [nI_1]
      exact ih
    · rw [colB_0 c] at ih
      rw [if_neg (fun q => c ((hp l (by omega)).mp q))]
      unfold fX3_leechesOn_28
      rw [nI_1]
      exact ih
theorem pu_leechesOn {n : Nat} (hn : 13 ≤ n) {on : Nat → Int32} {v : Int32} {p : Nat → Bool} {nl : Nat} (hnl : nl ≤ 5) (hp : ∀ l, l < nl → (on l = v ↔ p l = true)) : fX3_leechesOn n (nI nl) on v = some (nI (colB p nl)) := by
  unfold fX3_leechesOn
  have h := pu_leechesOn_loop n hnl hp nl 0 (n - nl - 1) (by omega)
  have e : n - nl - 1 + nl + 1 = n := by omega
  rw [e] at h
  exact h
theorem pu_leechesOnM_loop (n : Nat) {row : Nat → Int32} {v : Int32} {p : Nat → Bool} {nl : Nat} (hnl : nl ≤ 5) (hr : row 17 = nI nl) (hp : ∀ l, l < nl → (row (4 + l) = v ↔ p l = true)) : ∀ (t l q : Nat), l + t = nl →
    fX8_leechesOn_4 n row (q + t + 1) v (nI (colB p l)) (nI l) = some (nI (colB p nl)) := by
  intro t
  induction t with
  | zero =>
    intro l q h
    have : l = nl := by omega
    subst this
    unfold fX8_leechesOn_4
    rw [hr, if_pos (nI_le (Nat.le_refl _) (by omega))]
  | succ t ih =>
    intro l q h
    have e : q + (t + 1) + 1 = (q + t + 1) + 1 := by omega
    have e4 : (4 : Int32) + nI l = nI (4 + l) := nI_add 4 l
    have c1 := nI_inL (c := 4 + l) (N := 624) (by omega) (by decide)
    have e1 : (nI (4 + l)).toNatClampNeg = 4 + l := nI_clamp (by omega)
    have ih := ih (l + 1) q (by omega)
    rw [e]
    unfold fX8_leechesOn_4
    rw [hr, if_neg (nI_ge (by omega) (by omega)), e4, e1, if_neg c1]
    unfold fX8_leechesOn_35
    by_cases c : p l = true
    · rw [colB_1 c] at ih
      rw [if_pos ((hp l (by omega)).mpr c), pu_1shl (by omega), pu_or, nI_1]
      exact ih
    · rw [colB_0 c] at ih
      rw [if_neg (fun q => c ((hp l (by omega)).mp q)), nI_1, Int32.or_zero]
      exact ih
theorem pu_leechesOnM {n : Nat} (hn : 13 ≤ n) {row : Nat → Int32} {v : Int32} {p : Nat → Bool} {nl : Nat} (hnl : nl ≤ 5) (hr : row 17 = nI nl) (hp : ∀ l, l < nl → (row (4 + l) = v ↔ p l = true)) : fX8_leechesOn n row v = some (nI (colB p nl)) := by
  unfold fX8_leechesOn
  have h := pu_leechesOnM_loop n hnl hr hp nl 0 (n - nl - 1) (by omega)
  have e : n - nl - 1 + nl + 1 = n := by omega
  rw [e] at h
  exact h
theorem pu_bitsWith_loop (n : Nat) {f : Nat → Int32} {F : Nat → Nat} {N a i : Nat} (hN : N < 31) (hNa : a ≤ N) (hi : i < 32) (hf : ∀ j, j < a → f j = nI (F j) ∧ F j < 4096) : ∀ (t j q : Nat), j + t = a →
    fX7_bitsWith_5 n N f (q + t + 1) (nI a) (nI i) (nI (colB (fun j => (F j).testBit i) j)) (nI j) = some (nI (colB (fun j => (F j).testBit i) a)) := by
  intro t
  induction t with
  | zero =>
    intro j q h
    have : j = a := by omega
    subst this
    unfold fX7_bitsWith_5 fX7_bitsWith_42
    rw [if_pos (nI_le (Nat.le_refl _) (by omega))]
  | succ t ih =>
    intro j q h
    have e : q + (t + 1) + 1 = (q + t + 1) + 1 := by omega
    have c1 := nI_inL (c := j) (N := N) (by omega) (by omega)
    have e1 : (nI j).toNatClampNeg = j := nI_clamp (by omega)
    have ih := ih (j + 1) q (by omega)
    obtain ⟨hf1, hf2⟩ := hf j (by omega)
    rw [e]
    unfold fX7_bitsWith_5
    rw [if_neg (nI_ge (by omega) (by omega)), if_neg (show ¬ Int32.ofNat N ≤ nI j from nI_ge (by omega) (by omega)), e1, if_neg c1, hf1, pu_hasBit n (by omega) hi, Option.bind_some]
    unfold fX7_bitsWith_36
    by_cases c : (F j).testBit i = true
    · rw [colB_1 (p := fun j => (F j).testBit i) c] at ih
      rw [if_pos c, if_neg (by decide), pu_1shl (by omega), pu_or, nI_1]
      exact ih
    · rw [colB_0 (p := fun j => (F j).testBit i) c] at ih
      rw [if_neg c, if_pos rfl, nI_1]
      exact ih
theorem pu_bitsWith {n : Nat} {f : Nat → Int32} {F : Nat → Nat} {N a i : Nat} (hN : N < 31) (hn : N < n) (hNa : a ≤ N) (hi : i < 32) (hf : ∀ j, j < a → f j = nI (F j) ∧ F j < 4096) : fX7_bitsWith n N f (nI a) (nI i) = some (nI (colB (fun j => (F j).testBit i) a)) := by
  unfold fX7_bitsWith
  have h := pu_bitsWith_loop n hN hNa hi hf a 0 (n - a - 1) (by omega)
  have e : n - a - 1 + a + 1 = n := by omega
  rw [e] at h
  exact h
