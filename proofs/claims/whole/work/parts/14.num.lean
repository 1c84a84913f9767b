theorem pu_bitCount (n : Nat) {a : Nat} (h : a < 4096) : fJ6_bitCount_0f7a4 n (nI a) = some (nI (pc a)) := pu_bitCount0 a h
theorem pu_sl : ∀ n, n < 32 → ((nI n &&& 31).toBitVec.smod 32).toNat = n := by decide +kernel
theorem pu_shr {a k : Nat} (ha : a < 2 ^ 31) (hk : k < 32) : nI a >>> (nI k &&& 31) = nI (a / 2 ^ k) := pk_shrN ha _ k (pu_sl k hk)
theorem pu_and1 {a : Nat} (h : a < 2 ^ 32) : nI a &&& 1 = nI (a % 2) := by
  have e := pk_andN h (m := 1) 1 (by decide)
  simpa using e
theorem pu_bit {a k : Nat} (ha : a < 2 ^ 31) (hk : k < 32) : (nI a >>> (nI k &&& 31)) &&& 1 = if a.testBit k then 1 else 0 := by
  rw [pu_shr ha hk, pu_and1 (Nat.lt_of_le_of_lt (Nat.div_le_self _ _) (Nat.lt_trans ha (by decide))), Nat.testBit_eq_decide_div_mod_eq]
  rcases Nat.mod_two_eq_zero_or_one (a / 2 ^ k) with h | h <;> rw [h] <;> rfl
theorem pu_shl {a k : Nat} (hk : k < 32) (h : a * 2 ^ k < 2 ^ 32) : nI a <<< (nI k &&& 31) = nI (a * 2 ^ k) := pk_shlN _ k (pu_sl k hk) h
theorem pu_1shl {k : Nat} (hk : k < 31) : (1 : Int32) <<< (nI k &&& 31) = nI (2 ^ k) := by
  have h : 1 * 2 ^ k < 2 ^ 32 := by
    have := Nat.pow_lt_pow_right (a := 2) (by decide) hk
    omega
  have e := pu_shl (a := 1) (by omega) h
  rw [Nat.one_mul] at e
  exact e
/-- X8.has, X7.hasBit -/
theorem pu_has (n : Nat) {a k : Nat} (ha : a < 2 ^ 31) (hk : k < 32) : fX8_has n (nI a) (nI k) = some (if a.testBit k then 1 else 0) := by
  unfold fX8_has
  rw [pu_bit ha hk]
  cases a.testBit k <;> rfl
theorem pu_hasBit (n : Nat) {a k : Nat} (ha : a < 2 ^ 31) (hk : k < 32) : fX7_hasBit n (nI a) (nI k) = some (if a.testBit k then 1 else 0) := by
  unfold fX7_hasBit
  rw [pu_bit ha hk]
  cases a.testBit k <;> rfl
theorem pcN_le (a : Nat) : ∀ k, pcN a k ≤ k
  | 0 => Nat.le_refl 0
  | k + 1 => by
    have h := pcN_le a k
    unfold pcN
    split <;> omega
theorem pc_le (a : Nat) : pc a ≤ 12 := pcN_le a 12
theorem pu_bits_loop (n : Nat) {a : Nat} (ha : a < 2 ^ 31) : ∀ (j i k : Nat), i + j = 12 → fX8_bits_4 n (k + j + 1) (nI a) (nI (pcN a i)) (nI i) = some (nI (pc a)) := by
  intro j
  induction j with
  | zero =>
    intro i k h
    have : i = 12 := by omega
    subst this
    unfold fX8_bits_4
    rw [if_pos (by decide)]
    rfl
  | succ j ih =>
    intro i k h
    have hi : ¬ (12 : Int32) ≤ nI i := nI_ge (b := 12) (by omega) (by decide)
    have e : k + (j + 1) + 1 = (k + j + 1) + 1 := by omega
    rw [e]
    unfold fX8_bits_4
    rw [if_neg hi, pu_bit ha (by omega), nI_1]
    have e2 : (nI (pcN a i) + if a.testBit i then 1 else 0) = nI (pcN a (i + 1)) := by
      rw [pcN]
      cases a.testBit i
      · exact nI_add _ 0
      · exact nI_1 _
    rw [e2]
    exact ih (i + 1) k (by omega)
theorem pu_bits {n : Nat} (hn : 13 ≤ n) {a : Nat} (ha : a < 2 ^ 31) : fX8_bits n (nI a) = some (nI (pc a)) := by
  unfold fX8_bits
  have e : n = (n - 13) + 12 + 1 := by omega
  have h := pu_bits_loop n ha 12 0 (n - 13) rfl
  rw [← e] at h
  exact h
/-- lg_cmp's signs -/
theorem pu_cmp_lt (x y : Int64) : lg_cmp x y < 0 ↔ x < y := by
  unfold lg_cmp
  by_cases h : x > y
  · rw [if_pos h]
    constructor
    · intro q; exact absurd q (by decide)
    · intro q; exact (Int64.lt_irrefl (Int64.lt_trans q h)).elim
  · rw [if_neg h]
    by_cases e : x = y
    · rw [if_pos e, e]
      constructor
      · intro q; exact absurd q (by decide)
      · intro q; exact (Int64.lt_irrefl q).elim
    · rw [if_neg e]
      constructor
      · intro _
        rcases Int64.lt_or_lt_of_ne e with q | q
        · exact q
        · exact absurd q h
      · intro _; decide
theorem pu_cmp_gt (x y : Int64) : 0 < lg_cmp x y ↔ y < x := by
  unfold lg_cmp
  by_cases h : x > y
  · rw [if_pos h]
    exact ⟨fun _ => h, fun _ => by decide⟩
  · rw [if_neg h]
    by_cases e : x = y
    · rw [if_pos e]
      exact ⟨fun q => absurd q (by decide), fun q => absurd q h⟩
    · rw [if_neg e]
      exact ⟨fun q => absurd q (by decide), fun q => absurd q h⟩
theorem pu_in (n : Nat) (x a b : Int64) : fX8_in n x a b = some (if x < a ∨ b < x then 0 else 1) := by
  unfold fX8_in
  by_cases h : x < a
  · rw [if_pos ((pu_cmp_lt x a).mpr h), if_pos (Or.inl h)]; rfl
  · rw [if_neg (fun q => h ((pu_cmp_lt x a).mp q))]
    by_cases h2 : b < x
    · rw [if_pos ((pu_cmp_gt x b).mpr h2), if_pos (Or.inr h2)]; rfl
    · rw [if_neg (fun q => h2 ((pu_cmp_gt x b).mp q)), if_neg (fun q => q.elim h h2)]; rfl
