/-! which FACT is next, and what is lost with it -/
def upB (a : Nat) : Nat → Nat → Nat | 0, i => i | j + 1, i => if a.testBit i then i else upB a j (i + 1)
def dnB (a : Nat) : Nat → Nat | 0 => 0 | i + 1 => if a.testBit i then i else dnB a i
def loB (a : Nat) : Nat := upB a 12 0
def hiB (a : Nat) : Nat := dnB a 12
theorem upB_spec (a : Nat) (ha : a < 4096) : ∀ (j i : Nat), i + j = 12 → (∀ q, q < i → a.testBit q = false) → a ≠ 0 → upB a j i < 12 ∧ a.testBit (upB a j i) = true := by
  intro j
  induction j with
  | zero =>
    intro i h hz h0
    exfalso
    apply h0
    apply Nat.eq_of_testBit_eq
    intro q
    rw [Nat.zero_testBit]
    by_cases c : q < i
    · exact hz q c
    · exact Nat.testBit_lt_two_pow (Nat.lt_of_lt_of_le ha (by rw [show 4096 = 2 ^ 12 from rfl]; exact Nat.pow_le_pow_right (by decide) (by omega)))
  | succ j ih =>
    intro i h hz h0
    unfold upB
    by_cases c : a.testBit i = true
    · rw [if_pos c]; exact ⟨by omega, c⟩
    · rw [if_neg c]
      refine ih (i + 1) (by omega) (fun q hq => ?_) h0
      rcases Nat.lt_or_ge q i with d | d
      · exact hz q d
      · have : q = i := by omega
        subst this
        simpa using c
theorem loB_spec {a : Nat} (ha : a < 4096) (h0 : a ≠ 0) : loB a < 12 ∧ a.testBit (loB a) = true := upB_spec a ha 12 0 rfl (fun q hq => absurd hq (Nat.not_lt_zero q)) h0
theorem dnB_spec (a : Nat) : ∀ (i : Nat), a < 2 ^ i → a ≠ 0 → dnB a i < i ∧ a.testBit (dnB a i) = true := by
  intro i
  induction i with
  | zero => intro h h0; exfalso; simp at h; exact h0 h
  | succ i ih =>
    intro h h0
    unfold dnB
    by_cases c : a.testBit i = true
    · rw [if_pos c]; exact ⟨by omega, c⟩
    · rw [if_neg c]
      have h2 : a < 2 ^ i := by
        apply Nat.lt_pow_two_of_testBit
        intro q hq
        rcases Nat.lt_or_ge i q with d | d
        · exact Nat.testBit_lt_two_pow (Nat.lt_of_lt_of_le h (Nat.pow_le_pow_right (by decide) d))
        · have : q = i := by omega
          subst this
          simpa using c
      obtain ⟨p, q⟩ := ih h2 h0
      exact ⟨by omega, q⟩
theorem hiB_spec {a : Nat} (ha : a < 4096) (h0 : a ≠ 0) : hiB a < 12 ∧ a.testBit (hiB a) = true := dnB_spec a 12 ha h0
theorem pu_next_up (n : Nat) {a : Nat} (ha : a < 4096) (h0 : a ≠ 0) : ∀ (j i k : Nat), i + j = 12 → (∀ q, q < i → a.testBit q = false) → fX8_nextFact_11 n (k + j + 1) (nI a) 1 (nI i) = some (nI (upB a j i)) := by
  intro j
  induction j with
  | zero =>
    intro i k h hz
    have := (upB_spec a ha 0 i h hz h0).2
    have e : upB a 0 i = i := rfl
    rw [e] at this ⊢
    unfold fX8_nextFact_11
    rw [pu_has n (by omega) (by omega), this]
    rfl
  | succ j ih =>
    intro i k h hz
    have e : k + (j + 1) + 1 = (k + j + 1) + 1 := by omega
    rw [e]
    unfold fX8_nextFact_11 upB
    rw [pu_has n (by omega) (by omega), Option.bind_some]
    by_cases c : a.testBit i = true
    · rw [if_pos c, if_pos c, if_neg (by decide)]
    · rw [if_neg c, if_neg c, if_pos rfl, if_neg (by decide)]
      have := ih (i + 1) k (by omega) (fun q hq => by
        rcases Nat.lt_or_ge q i with d | d
        · exact hz q d
        · have : q = i := by omega
          rw [this]; simpa using c)
      rw [← nI_1 i] at this
      unfold fX8_nextFact_29
      exact this
theorem pu_next_dn (n : Nat) {a : Nat} (h0 : a ≠ 0) : ∀ (i k : Nat), i < 31 → a < 2 ^ (i + 1) → fX8_nextFact_11 n (k + i + 1) (nI a) 0 (nI i) = some (nI (dnB a (i + 1))) := by
  intro i
  induction i with
  | zero =>
    intro k hi h
    have h1 : a = 1 := by simp at h; omega
    subst h1
    unfold fX8_nextFact_11
    rw [pu_has n (by decide) (by decide), Option.bind_some, if_neg (by decide)]
    rfl
  | succ i ih =>
    intro k hi h
    have e : k + (i + 1) + 1 = (k + i + 1) + 1 := by omega
    rw [e]
    have ha : a < 2 ^ 31 := Nat.lt_of_lt_of_le h (Nat.pow_le_pow_right (by decide) (by omega))
    unfold fX8_nextFact_11 dnB
    rw [pu_has n ha (by omega), Option.bind_some]
    by_cases c : a.testBit (i + 1) = true
    · rw [if_pos c, if_pos c, if_neg (by decide)]
    · rw [if_neg c, if_neg c, if_pos rfl, if_pos rfl]
      have h2 : a < 2 ^ (i + 1) := by
        apply Nat.lt_pow_two_of_testBit
        intro q hq
        rcases Nat.lt_or_ge (i + 1) q with d | d
        · exact Nat.testBit_lt_two_pow (Nat.lt_of_lt_of_le h (Nat.pow_le_pow_right (by decide) d))
        · have : q = i + 1 := by omega
          rw [this]; simpa using c
      have := ih k (by omega) h2
      rw [← pk_m1 i] at this
      unfold fX8_nextFact_29
      exact this
theorem pu_next8 {n : Nat} (hn : 13 ≤ n) {a : Nat} (ha : a < 4096) (h0 : a ≠ 0) : fX8_nextFact n (nI a) 0 = some (nI (hiB a)) ∧ fX8_nextFact n (nI a) 1 = some (nI (loB a)) := by
  refine ⟨?_, ?_⟩
  · have h := pu_next_dn n h0 11 (n - 12) (by omega) ha
    have e : n - 12 + 11 + 1 = n := by omega
    rw [e] at h
    exact h
  · have h := pu_next_up n ha h0 12 0 (n - 13) rfl (fun q hq => absurd hq (Nat.not_lt_zero q))
    have e : n - 13 + 12 + 1 = n := by omega
    rw [e] at h
    exact h
