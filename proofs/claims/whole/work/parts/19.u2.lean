theorem half_mod {b r : Nat} (h0 : 0 < r) (h : r < b) : 2 * (b % r) < b := by
  have h1 := Nat.mod_lt b h0
  have h2 := Nat.div_add_mod b r
  have h3 : 1 ≤ b / r := Nat.div_pos (Nat.le_of_lt h) h0
  have h4 : r * 1 ≤ r * (b / r) := Nat.mul_le_mul_left r h3
  omega
theorem gcd_next (a b : Nat) : Nat.gcd a b = Nat.gcd b (a % b) := by
  rw [Nat.gcd_comm a b, Nat.gcd_rec, Nat.gcd_comm]
theorem lN_ne0 {b : Nat} (h : b < 2 ^ 63) (h0 : b ≠ 0) : ¬ lN b = 0 := fun e => h0 ((pk_lEQ h (by decide : 0 < 2 ^ 63)).mp e)
theorem cmp_ne0 {b : Nat} (h : b < 2 ^ 63) (h0 : b ≠ 0) : ¬ lg_cmp (lN b) 0 = 0 := fun e => lN_ne0 h h0 ((lg_cmp_eq _ _).mp e)
theorem cmp_0 : lg_cmp (lN 0) 0 = 0 := (lg_cmp_eq _ _).mpr rfl
/-- Euclid: the class's -/
theorem pu_cd_loop (n : Nat) : ∀ (j a b i q : Nat), j ≤ 62 → a < 2 ^ 63 → b < 2 ^ j → i + 2 * j < 100 → fX1_commonDivisor_9 n (q + 2 * j + 1) (lN a) (lN b) (nI i) = some (lN (Nat.gcd a b)) := by
  intro j
  induction j with
  | zero =>
    intro a b i q hj ha hb hi
    have : b = 0 := by omega
    subst this
    unfold fX1_commonDivisor_9 fX1_commonDivisor_44
    rw [if_neg (show ¬ (100 : Int32) ≤ nI i from nI_ge (b := 100) (by omega) (by decide)), if_pos cmp_0, Nat.gcd_zero_right]
  | succ j ih =>
    intro a b i q hj ha hb hi
    have hp : 2 ^ (j + 1) = 2 * 2 ^ j := by rw [Nat.pow_succ, Nat.mul_comm]
    have hp2 : 2 ^ (j + 1) ≤ 2 ^ 63 := Nat.pow_le_pow_right (by decide) (by omega)
    have e : q + 2 * (j + 1) + 1 = (q + 2 * j + 1 + 1) + 1 := by omega
    rw [e]
    unfold fX1_commonDivisor_9
    rw [if_neg (show ¬ (100 : Int32) ≤ nI i from nI_ge (b := 100) (by omega) (by decide))]
    by_cases c : b = 0
    · subst c
      unfold fX1_commonDivisor_44
      rw [if_pos cmp_0, Nat.gcd_zero_right]
    · rw [if_neg (cmp_ne0 (by omega) c), if_neg (lN_ne0 (by omega) c), pk_lRem ha (by omega) (by omega), nI_1, gcd_next a b]
      have hr := Nat.mod_lt a (show 0 < b by omega)
      unfold fX1_commonDivisor_9
      rw [if_neg (show ¬ (100 : Int32) ≤ nI (i + 1) from nI_ge (b := 100) (by omega) (by decide))]
      by_cases d : a % b = 0
      · unfold fX1_commonDivisor_44
        rw [d, if_pos cmp_0, Nat.gcd_zero_right]
      · have hh := half_mod (show 0 < a % b by omega) hr
        rw [if_neg (cmp_ne0 (by omega) d), if_neg (lN_ne0 (by omega) d), pk_lRem (by omega) (by omega) (by omega), nI_1, gcd_next b (a % b)]
        exact ih (a % b) (b % (a % b)) (i + 1 + 1) q (by omega) (by omega) (by omega) (by omega)
/-- Euclid: the reference's -/
theorem pu_po_loop (n : Nat) (v0 v2 : Int64) (v4 : Int32) : ∀ (j a b q : Nat), j ≤ 62 → a < 2 ^ 63 → b < 2 ^ j → Nat.gcd a b ≠ 0 → fX8_partOf_17 n (q + 2 * j + 1) v0 v2 v4 (lN a) (lN b) = some (if v4 = 0 then (v0 / lN (Nat.gcd a b)).toInt32 else (v2 / lN (Nat.gcd a b)).toInt32) := by
  intro j
  have fin : ∀ a : Nat, a < 2 ^ 63 → a ≠ 0 → (if v4 = 0 then (if lN a = 0 then none else fX8_partOf_58 n (v0 / lN a)) else (if lN a = 0 then none else fX8_partOf_58 n (v2 / lN a))) = some (if v4 = 0 then (v0 / lN a).toInt32 else (v2 / lN a).toInt32) := by
    intro a ha h0
    rw [if_neg (lN_ne0 ha h0), if_neg (lN_ne0 ha h0)]
    unfold fX8_partOf_58
    by_cases c : v4 = 0
    · rw [if_pos c, if_pos c]
    · rw [if_neg c, if_neg c]
  induction j with
  | zero =>
    intro a b q hj ha hb hg
    have : b = 0 := by omega
    subst this
    rw [Nat.gcd_zero_right] at hg ⊢
    unfold fX8_partOf_17
    rw [if_pos cmp_0]
    exact fin a ha hg
  | succ j ih =>
    intro a b q hj ha hb hg
    have hp : 2 ^ (j + 1) = 2 * 2 ^ j := by rw [Nat.pow_succ, Nat.mul_comm]
    have hp2 : 2 ^ (j + 1) ≤ 2 ^ 63 := Nat.pow_le_pow_right (by decide) (by omega)
    have e : q + 2 * (j + 1) + 1 = (q + 2 * j + 1 + 1) + 1 := by omega
    rw [e]
    unfold fX8_partOf_17
    by_cases c : b = 0
    · subst c
      rw [Nat.gcd_zero_right] at hg ⊢
      rw [if_pos cmp_0]
      exact fin a ha hg
    · rw [if_neg (cmp_ne0 (by omega) c), if_neg (lN_ne0 (by omega) c), pk_lRem ha (by omega) (by omega)]
      rw [gcd_next a b] at hg ⊢
      have hr := Nat.mod_lt a (show 0 < b by omega)
      unfold fX8_partOf_17
      by_cases d : a % b = 0
      · rw [d, Nat.gcd_zero_right] at hg ⊢
        rw [if_pos cmp_0]
        exact fin b (by omega) hg
      · have hh := half_mod (show 0 < a % b by omega) hr
        rw [if_neg (cmp_ne0 (by omega) d), if_neg (lN_ne0 (by omega) d), pk_lRem (by omega) (by omega) (by omega)]
        rw [gcd_next b (a % b)] at hg ⊢
        exact ih (a % b) (b % (a % b)) q (by omega) (by omega) (by omega) hg
