/-- by KIND: what it TAKES, its ROOM, which is next -/
def tkK (kd : Nat) : Nat := ([1, 2, 3, 1, 1] : List Nat).getD kd 0
def rmK (kd : Nat) : Nat := ([3, 6, 9, 2, 99] : List Nat).getD kd 0
def nxB (kd a : Nat) : Nat := if 3 ≤ kd then loB a else hiB a
theorem nxB_spec {kd a : Nat} (ha : a < 4096) (h0 : a ≠ 0) : nxB kd a < 12 ∧ a.testBit (nxB kd a) = true := by
  unfold nxB
  split
  · exact loB_spec ha h0
  · exact hiB_spec ha h0
theorem pu_next3 (n : Nat) {kd a : Nat} (hk : kd < 5) (ha : a < 4096) (h0 : a ≠ 0) : fX3_nextFact n (nI kd) (nI a) = some (nI (nxB kd a)) := by
  have b := pu_next3b a ha h0
  have c := pu_next3a a ha h0
  rcases (show kd = 0 ∨ kd = 1 ∨ kd = 2 ∨ kd = 3 ∨ kd = 4 by omega) with rfl | rfl | rfl | rfl | rfl
  · exact c
  · exact c
  · exact c
  · exact b
  · exact b
/-- a set less another -/
def difB (x y : Nat) : Nat := x &&& (y ^^^ 4294967295)
theorem difB_bit {x y i : Nat} (hi : i < 32) : (difB x y).testBit i = (x.testBit i && !y.testBit i) := by
  unfold difB
  rw [Nat.testBit_and, Nat.testBit_xor]
  have : Nat.testBit 4294967295 i = true := by
    have e : (4294967295 : Nat) = 2 ^ 32 - 1 := rfl
    rw [e, Nat.testBit_two_pow_sub_one]
    simpa using hi
  rw [this]
  cases x.testBit i <;> cases y.testBit i <;> rfl
theorem difB_le (x y : Nat) : difB x y ≤ x := Nat.and_le_left
theorem pu_m1 : (-1 : Int32) = nI 4294967295 := by decide
theorem pu_dif (x y : Nat) : nI x &&& (nI y ^^^ (-1)) = nI (difB x y) := by
  rw [pu_m1]
  unfold difB nI
  apply Int32.toBitVec_inj.mp
  rw [Int32.toBitVec_and, Int32.toBitVec_xor, Int32.toBitVec_ofNat', Int32.toBitVec_ofNat', Int32.toBitVec_ofNat', Int32.toBitVec_ofNat']
  apply BitVec.eq_of_getLsbD_eq
  intro i hi
  simp [BitVec.getLsbD_ofNat, Nat.testBit_and, Nat.testBit_xor, hi]
theorem set_ext {a b : Nat} (ha : a < 4096) (hb : b < 4096) (h : ∀ i, i < 12 → a.testBit i = b.testBit i) : a = b := by
  apply Nat.eq_of_testBit_eq
  intro i
  by_cases c : i < 12
  · exact h i c
  · have p : 4096 ≤ 2 ^ i := by rw [show 4096 = 2 ^ 12 from rfl]; exact Nat.pow_le_pow_right (by decide) (by omega)
    rw [Nat.testBit_lt_two_pow (Nat.lt_of_lt_of_le ha p), Nat.testBit_lt_two_pow (Nat.lt_of_lt_of_le hb p)]
/-- what is left of a behind the loss of f, by the first g FACTS -/
def lostL (al : Nat → Nat) (f a : Nat) : Nat → Nat | 0 => a | g + 1 => if (al g).testBit f then difB (lostL al f a g) (2 ^ g) else lostL al f a g
theorem lostL_s (al : Nat → Nat) (f a g : Nat) : lostL al f a (g + 1) = if (al g).testBit f then difB (lostL al f a g) (2 ^ g) else lostL al f a g := rfl
theorem difB_0 {x : Nat} (h : x < 4294967296) : difB x 0 = x := by
  unfold difB
  rw [Nat.zero_xor]
  have e : (4294967295 : Nat) = 2 ^ 32 - 1 := rfl
  rw [e, Nat.and_two_pow_sub_one_eq_mod]
  exact Nat.mod_eq_of_lt h
theorem pu_all {x : Nat} (h : x < 4294967296) : nI x &&& (-1) = nI x := by
  have := pu_dif x 0
  rw [difB_0 h] at this
  have z : nI 0 ^^^ (-1) = (-1 : Int32) := by decide
  rw [z] at this
  exact this
theorem lostL_le (al : Nat → Nat) (f a : Nat) : ∀ g, lostL al f a g ≤ a
  | 0 => Nat.le_refl _
  | g + 1 => by
    unfold lostL
    split
    · exact Nat.le_trans (difB_le _ _) (lostL_le al f a g)
    · exact lostL_le al f a g
theorem lostL_bit (al : Nat → Nat) (f a : Nat) {i : Nat} (hi : i < 32) : ∀ g, (lostL al f a g).testBit i = (a.testBit i && !(decide (i < g) && (al i).testBit f))
  | 0 => by simp [lostL]
  | g + 1 => by
    unfold lostL
    have ih := lostL_bit al f a hi g
    by_cases c : (al g).testBit f = true
    · rw [if_pos c, difB_bit hi, ih, Nat.testBit_two_pow]
      by_cases e : g = i
      · subst e; simp [c]
      · have : (i < g + 1) ↔ (i < g) := by omega
        simp [e, this]
    · rw [if_neg c, ih]
      by_cases e : g = i
      · subst e; simp [c]
      · have : (i < g + 1) ↔ (i < g) := by omega
        simp [this]
/-- the reference's lost -/
theorem pu_lost_loop (n : Nat) (row : Nat → Int32) {nf : Nat} (al : Nat → Nat) (hnf : nf ≤ 12) (hf : row 23 = nI nf) (hal : ∀ g, g < nf → row (36 + g) = nI (al g) ∧ al g < 4096) {f a : Nat} (hff : f < 12) (ha : a < 4096) : ∀ (j g k : Nat), g + j = nf → fX8_lost_5 n row (k + j + 1) (nI f) (nI (lostL al f a g)) (nI g) = some (nI (lostL al f a nf)) := by
  intro j
  induction j with
  | zero =>
    intro g k h
    have : g = nf := by omega
    subst this
    unfold fX8_lost_5
    rw [hf, if_pos (nI_le (Nat.le_refl _) (by omega))]
  | succ j ih =>
    intro g k h
    have e : k + (j + 1) + 1 = (k + j + 1) + 1 := by omega
    rw [e]
    unfold fX8_lost_5
    have e36 : (36 : Int32) + nI g = nI (36 + g) := nI_add 36 g
    rw [hf, if_neg (nI_ge (by omega) (by omega)), e36, if_neg (nI_in (N := 624) (by omega) (by decide)), nI_clamp (by omega), (hal g (by omega)).1, pu_has n (by have := (hal g (by omega)).2; omega) (by omega)]
    have ih := ih (g + 1) k (by omega)
    rw [← nI_1 g, lostL_s] at ih
    rw [Option.bind_some]
    by_cases c : (al g).testBit f = true
    · rw [if_pos c] at ih
      rw [if_pos c, if_neg (by decide)]
      unfold fX8_lost_45
      rw [pu_1shl (show g < 31 by omega), pu_dif]
      exact ih
    · rw [if_neg c] at ih
      rw [if_neg c, if_pos rfl]
      unfold fX8_lost_45
      rw [pu_all (by have := lostL_le al f a g; omega)]
      exact ih
theorem pu_lost {n : Nat} (hn : 13 ≤ n) (row : Nat → Int32) {nf : Nat} (al : Nat → Nat) (hnf : nf ≤ 12) (hf : row 23 = nI nf) (hal : ∀ g, g < nf → row (36 + g) = nI (al g) ∧ al g < 4096) {f a : Nat} (hff : f < 12) (ha : a < 4096) : fX8_lost n row (nI a) (nI f) = some (nI (lostL al f a nf)) := by
  unfold fX8_lost
  have h := pu_lost_loop n row al hnf hf hal hff ha nf 0 (n - nf - 1) (by omega)
  have e : n - nf - 1 + nf + 1 = n := by omega
  rw [e] at h
  exact h
