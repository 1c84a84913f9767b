/-- all that the first a of F have -/
def orN (F : Nat → Nat) : Nat → Nat
  | 0 => 0
  | k + 1 => orN F k ||| F k
theorem pu_known_loop (n : Nat) {f : Nat → Int32} {F : Nat → Nat} {a : Nat} (ha : a ≤ 4) (hf : ∀ j, j < a → f j = nI (F j)) : ∀ (t j q : Nat), j + t = a →
    fX3_known_4 n (nI a) f (q + t + 1) (nI (orN F j)) (nI j) = some (nI (orN F a)) := by
  intro t
  induction t with
  | zero =>
    intro j q h
    have : j = a := by omega
    subst this
    unfold fX3_known_4
    rw [if_pos (nI_le (Nat.le_refl _) (by omega))]
  | succ t ih =>
    intro j q h
    have e : q + (t + 1) + 1 = (q + t + 1) + 1 := by omega
    have c1 := nI_inL (c := j) (N := 4) (by omega) (by decide)
    have e1 : (nI j).toNatClampNeg = j := nI_clamp (by omega)
    rw [e]
    unfold fX3_known_4
    rw [if_neg (nI_ge (by omega) (by omega)), e1, if_neg c1, hf j (by omega), pu_or, nI_1]
    exact ih (j + 1) q (by omega)
theorem pu_known {n : Nat} (hn : 13 ≤ n) {f : Nat → Int32} {F : Nat → Nat} {a : Nat} (ha : a ≤ 4) (hf : ∀ j, j < a → f j = nI (F j)) : fX3_known n (nI a) f = some (nI (orN F a)) := by
  unfold fX3_known
  have h := pu_known_loop n ha hf a 0 (n - a - 1) (by omega)
  have e : n - a - 1 + a + 1 = n := by omega
  rw [e] at h
  exact h
theorem pu_knownBy_loop (n : Nat) {row : Nat → Int32} {F : Nat → Nat} {a b : Nat} (ha : a ≤ 4) (hb : b + 48 ≤ 624) (h16 : row (b + 16) = nI a) (hf : ∀ j, j < a → row (b + j) = nI (F j)) : ∀ (t j q : Nat), j + t = a →
    fX8_knownBySome_4 n row (q + t + 1) (nI b) (nI (orN F j)) (nI j) = some (nI (orN F a)) := by
  intro t
  have e16 : nI b + 16 = nI (b + 16) := nI_add b 16
  have c16 := nI_inL (c := b + 16) (N := 624) (by omega) (by decide)
  have k16 : (nI (b + 16)).toNatClampNeg = b + 16 := nI_clamp (by omega)
  induction t with
  | zero =>
    intro j q h
    have : j = a := by omega
    subst this
    unfold fX8_knownBySome_4
    rw [e16, k16, if_neg c16, h16, if_pos (nI_le (Nat.le_refl _) (by omega))]
  | succ t ih =>
    intro j q h
    have e : q + (t + 1) + 1 = (q + t + 1) + 1 := by omega
    have e0 : nI b + 0 + nI j = nI (b + j) := (congrArg (· + nI j) (nI_add b 0)).trans (nI_add b j)
    have c1 := nI_inL (c := b + j) (N := 624) (by omega) (by decide)
    have e1 : (nI (b + j)).toNatClampNeg = b + j := nI_clamp (by omega)
    rw [e]
    unfold fX8_knownBySome_4
    rw [e16, k16, if_neg c16, h16, if_neg (nI_ge (by omega) (by omega)), e0, e1, if_neg c1, hf j (by omega), pu_or, nI_1]
    exact ih (j + 1) q (by omega)
theorem pu_knownBy {n : Nat} (hn : 13 ≤ n) {row : Nat → Int32} {F : Nat → Nat} {a b : Nat} (ha : a ≤ 4) (hb : b + 48 ≤ 624) (h16 : row (b + 16) = nI a) (hf : ∀ j, j < a → row (b + j) = nI (F j)) : fX8_knownBySome n row (nI b) = some (nI (orN F a)) := by
  unfold fX8_knownBySome
  have h := pu_knownBy_loop n ha hb h16 hf a 0 (n - a - 1) (by omega)
  have e : n - a - 1 + a + 1 = n := by omega
  rw [e] at h
  exact h
