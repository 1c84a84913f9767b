/-! ONE WAY OF READING MACHINE NUMBERS: for simp only with omega -/
theorem qa : (0 : Int32) = nI 0 ∧ (1 : Int32) = nI 1 ∧ (2 : Int32) = nI 2 ∧ (3 : Int32) = nI 3 ∧ (4 : Int32) = nI 4 ∧ (5 : Int32) = nI 5 ∧ (6 : Int32) = nI 6 ∧ (7 : Int32) = nI 7 ∧ (8 : Int32) = nI 8 ∧ (9 : Int32) = nI 9 ∧ (10 : Int32) = nI 10 ∧ (11 : Int32) = nI 11 ∧ (12 : Int32) = nI 12 ∧ (13 : Int32) = nI 13 ∧ (14 : Int32) = nI 14 ∧ (15 : Int32) = nI 15 ∧ (16 : Int32) = nI 16 ∧ (17 : Int32) = nI 17 ∧ (18 : Int32) = nI 18 ∧ (19 : Int32) = nI 19 ∧ (20 : Int32) = nI 20 ∧ (21 : Int32) = nI 21 ∧ (22 : Int32) = nI 22 ∧ (23 : Int32) = nI 23 ∧ (24 : Int32) = nI 24 ∧ (25 : Int32) = nI 25 ∧ (26 : Int32) = nI 26 ∧ (27 : Int32) = nI 27 ∧ (28 : Int32) = nI 28 ∧ (29 : Int32) = nI 29 ∧ (30 : Int32) = nI 30 ∧ (31 : Int32) = nI 31 ∧ (32 : Int32) = nI 32 ∧ (33 : Int32) = nI 33 ∧ (34 : Int32) = nI 34 ∧ (35 : Int32) = nI 35 ∧ (36 : Int32) = nI 36 ∧ (37 : Int32) = nI 37 ∧ (38 : Int32) = nI 38 ∧ (39 : Int32) = nI 39 ∧ (40 : Int32) = nI 40 ∧ (41 : Int32) = nI 41 ∧ (42 : Int32) = nI 42 ∧ (43 : Int32) = nI 43 ∧ (44 : Int32) = nI 44 ∧ (45 : Int32) = nI 45 ∧ (46 : Int32) = nI 46 ∧ (47 : Int32) = nI 47 ∧ (48 : Int32) = nI 48 ∧ (49 : Int32) = nI 49 ∧ (50 : Int32) = nI 50 ∧ (51 : Int32) = nI 51 ∧ (52 : Int32) = nI 52 ∧ (53 : Int32) = nI 53 ∧ (54 : Int32) = nI 54 ∧ (55 : Int32) = nI 55 ∧ (56 : Int32) = nI 56 ∧ (57 : Int32) = nI 57 ∧ (58 : Int32) = nI 58 ∧ (59 : Int32) = nI 59 ∧ (60 : Int32) = nI 60 := ⟨rfl, rfl, rfl, rfl, rfl, rfl, rfl, rfl, rfl, rfl, rfl, rfl, rfl, rfl, rfl, rfl, rfl, rfl, rfl, rfl, rfl, rfl, rfl, rfl, rfl, rfl, rfl, rfl, rfl, rfl, rfl, rfl, rfl, rfl, rfl, rfl, rfl, rfl, rfl, rfl, rfl, rfl, rfl, rfl, rfl, rfl, rfl, rfl, rfl, rfl, rfl, rfl, rfl, rfl, rfl, rfl, rfl, rfl, rfl, rfl, rfl⟩
theorem qb : (61 : Int32) = nI 61 ∧ (62 : Int32) = nI 62 ∧ (63 : Int32) = nI 63 ∧ (64 : Int32) = nI 64 ∧ (65 : Int32) = nI 65 ∧ (66 : Int32) = nI 66 ∧ (67 : Int32) = nI 67 ∧ (68 : Int32) = nI 68 ∧ (69 : Int32) = nI 69 ∧ (70 : Int32) = nI 70 ∧ (71 : Int32) = nI 71 ∧ (72 : Int32) = nI 72 ∧ (73 : Int32) = nI 73 ∧ (74 : Int32) = nI 74 ∧ (75 : Int32) = nI 75 ∧ (76 : Int32) = nI 76 ∧ (77 : Int32) = nI 77 ∧ (78 : Int32) = nI 78 ∧ (79 : Int32) = nI 79 ∧ (80 : Int32) = nI 80 ∧ (81 : Int32) = nI 81 ∧ (82 : Int32) = nI 82 ∧ (83 : Int32) = nI 83 ∧ (84 : Int32) = nI 84 ∧ (85 : Int32) = nI 85 ∧ (86 : Int32) = nI 86 ∧ (87 : Int32) = nI 87 ∧ (88 : Int32) = nI 88 ∧ (89 : Int32) = nI 89 ∧ (90 : Int32) = nI 90 ∧ (91 : Int32) = nI 91 ∧ (92 : Int32) = nI 92 ∧ (93 : Int32) = nI 93 ∧ (94 : Int32) = nI 94 ∧ (95 : Int32) = nI 95 ∧ (96 : Int32) = nI 96 ∧ (97 : Int32) = nI 97 ∧ (98 : Int32) = nI 98 ∧ (99 : Int32) = nI 99 ∧ (100 : Int32) = nI 100 ∧ (101 : Int32) = nI 101 ∧ (102 : Int32) = nI 102 ∧ (103 : Int32) = nI 103 ∧ (104 : Int32) = nI 104 ∧ (105 : Int32) = nI 105 ∧ (106 : Int32) = nI 106 ∧ (107 : Int32) = nI 107 ∧ (108 : Int32) = nI 108 ∧ (109 : Int32) = nI 109 ∧ (110 : Int32) = nI 110 ∧ (111 : Int32) = nI 111 ∧ (112 : Int32) = nI 112 ∧ (113 : Int32) = nI 113 ∧ (114 : Int32) = nI 114 ∧ (115 : Int32) = nI 115 ∧ (116 : Int32) = nI 116 ∧ (117 : Int32) = nI 117 ∧ (118 : Int32) = nI 118 ∧ (119 : Int32) = nI 119 ∧ (120 : Int32) = nI 120 ∧ (121 : Int32) = nI 121 ∧ (122 : Int32) = nI 122 ∧ (123 : Int32) = nI 123 ∧ (124 : Int32) = nI 124 ∧ (125 : Int32) = nI 125 ∧ (126 : Int32) = nI 126 ∧ (127 : Int32) = nI 127 ∧ (128 : Int32) = nI 128 ∧ (129 : Int32) = nI 129 ∧ (144 : Int32) = nI 144 ∧ (200 : Int32) = nI 200 ∧ (255 : Int32) = nI 255 ∧ (336 : Int32) = nI 336 ∧ (480 : Int32) = nI 480 ∧ (576 : Int32) = nI 576 ∧ (624 : Int32) = nI 624 ∧ (999 : Int32) = nI 999 := ⟨rfl, rfl, rfl, rfl, rfl, rfl, rfl, rfl, rfl, rfl, rfl, rfl, rfl, rfl, rfl, rfl, rfl, rfl, rfl, rfl, rfl, rfl, rfl, rfl, rfl, rfl, rfl, rfl, rfl, rfl, rfl, rfl, rfl, rfl, rfl, rfl, rfl, rfl, rfl, rfl, rfl, rfl, rfl, rfl, rfl, rfl, rfl, rfl, rfl, rfl, rfl, rfl, rfl, rfl, rfl, rfl, rfl, rfl, rfl, rfl, rfl, rfl, rfl, rfl, rfl, rfl, rfl, rfl, rfl, rfl, rfl, rfl, rfl, rfl, rfl, rfl, rfl⟩
theorem qbb : ((10 : Int32) = nI 10) ∧ ((99999 : Int32) = nI 99999) ∧ ((1000000 : Int32) = nI 1000000) ∧ ((2000000 : Int32) = nI 2000000) ∧ ((3000000 : Int32) = nI 3000000) := ⟨rfl, rfl, rfl, rfl, rfl⟩
theorem qc : (0 : Int64) = lN 0 ∧ (1 : Int64) = lN 1 ∧ (2 : Int64) = lN 2 ∧ (3 : Int64) = lN 3 ∧ (4 : Int64) = lN 4 ∧ (5 : Int64) = lN 5 ∧ (6 : Int64) = lN 6 ∧ (9 : Int64) = lN 9 ∧ (10 : Int64) = lN 10 ∧ (11 : Int64) = lN 11 ∧ (12 : Int64) = lN 12 ∧ (20 : Int64) = lN 20 ∧ (31 : Int64) = lN 31 ∧ (40 : Int64) = lN 40 ∧ (48 : Int64) = lN 48 ∧ (57 : Int64) = lN 57 ∧ (97 : Int64) = lN 97 ∧ (122 : Int64) = lN 122 ∧ (255 : Int64) = lN 255 := ⟨rfl, rfl, rfl, rfl, rfl, rfl, rfl, rfl, rfl, rfl, rfl, rfl, rfl, rfl, rfl, rfl, rfl, rfl, rfl⟩
theorem q_lt {a b : Nat} (hb : b < 2147483648) (h : a < b) : (nI a < nI b) = True := eq_true (nI_lt h hb)
theorem q_nlt {a b : Nat} (hb : a < 2147483648) (h : b ≤ a) : (nI a < nI b) = False := eq_false (nI_nlt h hb)
theorem q_le {a b : Nat} (hb : b < 2147483648) (h : a ≤ b) : (nI a ≤ nI b) = True := eq_true (nI_le h hb)
theorem q_nle {a b : Nat} (hb : a < 2147483648) (h : b < a) : (nI a ≤ nI b) = False := eq_false (nI_ge h hb)
theorem q_eq {a b : Nat} (h : a = b) : (nI a = nI b) = True := eq_true (congrArg nI h)
theorem q_ne {a b : Nat} (ha : a < 2147483648) (hb : b < 2147483648) (h : a ≠ b) : (nI a = nI b) = False := eq_false (fun q => h ((nI_eq ha hb).mp q))
theorem q_cl {a : Nat} (h : a < 2147483648) : (nI a).toNatClampNeg = a := nI_clamp h
theorem q_leN {a b : Nat} (h : a ≤ b) : (a ≤ b) = True := eq_true h
theorem q_nleN {a b : Nat} (h : b < a) : (a ≤ b) = False := eq_false (Nat.not_le.mpr h)
theorem q_sub {a b : Nat} (h : b ≤ a) : nI a - nI b = nI (a - b) := nI_subU h
theorem q_mul (a b : Nat) : nI a * nI b = nI (a * b) := (Int32.ofNat_mul a b).symm
theorem q_at (f : Nat → Int32) {i j : Nat} (x : Int32) (h : j = i) : upd f i x j = x := if_pos h
theorem q_nat (f : Nat → Int32) {i j : Nat} (x : Int32) (h : j ≠ i) : upd f i x j = f j := if_neg h
theorem q_m1 : -nI 1 = onI 0 := rfl
theorem q_on {m : Nat} : onI (m + 1) = nI m := onI_s m
theorem q_oneT {a b : Nat} (h : a = b) : (onI a = onI b) = True := eq_true (congrArg onI h)
theorem q_oneF {a b : Nat} (ha : a < 2147483647) (hb : b < 2147483647) (h : a ≠ b) : (onI a = onI b) = False := by
  apply eq_false
  unfold onI
  intro q
  by_cases c : a = 0
  · by_cases d : b = 0
    · omega
    · rw [if_pos c, if_neg d] at q
      exact onI_nn1 (by omega) q.symm
  · by_cases d : b = 0
    · rw [if_neg c, if_pos d] at q
      exact onI_nn1 (by omega) q
    · rw [if_neg c, if_neg d] at q
      have := (nI_eq (by omega) (by omega)).mp q
      omega
theorem q_in0 {m : Nat} (h : m < 2147483648) : (nI m = onI 0) = False := eq_false (onI_nn1 h)
theorem q_0in {m : Nat} (h : m < 2147483648) : (onI 0 = nI m) = False := eq_false (fun q => onI_nn1 h q.symm)
theorem q_or (x y : Nat) : nI x ||| nI y = nI (x ||| y) := pu_or x y
theorem q_dif (x y : Nat) : nI x &&& (nI y ^^^ onI 0) = nI (difB x y) := pu_dif x y
theorem q_shl {k : Nat} (h : k < 31) : nI 1 <<< (nI k &&& nI 31) = nI (2 ^ k) := pu_1shl h
theorem q_ite {c : Prop} [Decidable c] {a b : Nat} : (if c then nI a else nI b) = nI (if c then a else b) := by
  by_cases h : c
  · rw [if_pos h, if_pos h]
  · rw [if_neg h, if_neg h]
/-- the lot: numbers first, then arrays -/
theorem qd : (∀ a b : Nat, nI a + nI b = nI (a + b)) ∧ (∀ a b : Nat, b ≤ a → nI a - nI b = nI (a - b)) ∧ (∀ a b : Nat, nI a * nI b = nI (a * b)) ∧
    (∀ a b : Nat, b < 2147483648 → a < b → (nI a < nI b) = True) ∧ (∀ a b : Nat, a < 2147483648 → b ≤ a → (nI a < nI b) = False) ∧
    (∀ a b : Nat, b < 2147483648 → a ≤ b → (nI a ≤ nI b) = True) ∧ (∀ a b : Nat, a < 2147483648 → b < a → (nI a ≤ nI b) = False) ∧
    (∀ a b : Nat, a = b → (nI a = nI b) = True) ∧ (∀ a b : Nat, a < 2147483648 → b < 2147483648 → a ≠ b → (nI a = nI b) = False) ∧
    (∀ a : Nat, a < 2147483648 → (nI a).toNatClampNeg = a) ∧ (∀ a b : Nat, a ≤ b → (a ≤ b) = True) ∧ (∀ a b : Nat, b < a → (a ≤ b) = False) :=
  ⟨nI_add, fun _ _ h => q_sub h, q_mul, fun _ _ h k => q_lt h k, fun _ _ h k => q_nlt h k, fun _ _ h k => q_le h k, fun _ _ h k => q_nle h k, fun _ _ h => q_eq h, fun _ _ h k l => q_ne h k l, fun _ h => q_cl h, fun _ _ h => q_leN h, fun _ _ h => q_nleN h⟩
theorem qe : (-nI 1 = onI 0) ∧ (∀ m : Nat, onI (m + 1) = nI m) ∧ (∀ a b : Nat, a = b → (onI a = onI b) = True) ∧ (∀ a b : Nat, a < 2147483647 → b < 2147483647 → a ≠ b → (onI a = onI b) = False) ∧
    (∀ m : Nat, m < 2147483648 → (nI m = onI 0) = False) ∧ (∀ m : Nat, m < 2147483648 → (onI 0 = nI m) = False) ∧
    (∀ x y : Nat, nI x ||| nI y = nI (x ||| y)) ∧ (∀ x y : Nat, nI x &&& (nI y ^^^ onI 0) = nI (difB x y)) ∧ (∀ k : Nat, k < 31 → nI 1 <<< (nI k &&& nI 31) = nI (2 ^ k)) :=
  ⟨q_m1, onI_s, fun _ _ h => q_oneT h, fun _ _ h k l => q_oneF h k l, fun _ h => q_in0 h, fun _ h => q_0in h, q_or, q_dif, fun _ h => q_shl h⟩
theorem qf : (∀ (f : Nat → Int32) (i j : Nat) (x : Int32), j = i → upd f i x j = x) ∧ (∀ (f : Nat → Int32) (i j : Nat) (x : Int32), j ≠ i → upd f i x j = f j) :=
  ⟨fun f _ _ x h => q_at f x h, fun f _ _ x h => q_nat f x h⟩
/-- where a number lies: among a .. N - 1, or outside -/
theorem q_cas (v : Int32) {a N : Nat} (h : a < N) (hN : N < 2147483648) : (∃ m, a ≤ m ∧ m < N ∧ v = nI m) ∨ (v < nI a) ∨ (¬ v < nI a ∧ ¬ v < nI N ∧ nI N ≤ v ∧ ¬ v ≤ nI (N - 1) ∧ nI (N - 1) < v) := by
  by_cases c : v < nI a
  · exact Or.inr (Or.inl c)
  · have t1 : (a : Int) ≤ v.toInt := by
      rw [Int32.lt_iff_toInt_lt, nI_toInt (by omega)] at c
      omega
    by_cases d : v < nI N
    · left
      rw [Int32.lt_iff_toInt_lt, nI_toInt hN] at d
      refine ⟨v.toInt.toNat, by omega, by omega, ?_⟩
      apply Int32.toInt_inj.mp
      rw [nI_toInt (by omega)]
      omega
    · have t2 : (N : Int) ≤ v.toInt := by
        rw [Int32.lt_iff_toInt_lt, nI_toInt hN] at d
        omega
      refine Or.inr (Or.inr ⟨c, d, ?_, ?_, ?_⟩)
      · rw [Int32.le_iff_toInt_le, nI_toInt hN]; omega
      · rw [Int32.le_iff_toInt_le, nI_toInt (by omega)]; omega
      · rw [Int32.lt_iff_toInt_lt, nI_toInt (by omega)]; omega
theorem lN_toI {n : Nat} (h : n < 2147483648) : (lN n).toInt = (n : Int) := lN_toInt h
/-- the reference's bounds -/
theorem q_in (n : Nat) (v : Int32) {a b : Nat} (ha : a < 2147483648) (hb : b < 2147483648) : fX8_in n v.toInt64 (lN a) (lN b) = some (if v < nI a ∨ nI b < v then nI 0 else nI 1) := by
  rw [pu_in]
  have e : (v.toInt64 < lN a ∨ lN b < v.toInt64) ↔ (v < nI a ∨ nI b < v) := by
    rw [Int64.lt_iff_toInt_lt, Int64.lt_iff_toInt_lt, Int32.toInt_toInt64, lN_toI ha, lN_toI hb, Int32.lt_iff_toInt_lt, Int32.lt_iff_toInt_lt, nI_toInt ha, nI_toInt hb]
  by_cases c : v < nI a ∨ nI b < v
  · rw [if_pos c, if_pos (e.mpr c)]; rfl
  · rw [if_neg c, if_neg (fun q => c (e.mp q))]; rfl
theorem q_inG (v : Int32) (N : Nat) : inG v N = if v < nI 0 ∨ nI N ≤ v then nI 0 else nI 1 := rfl
theorem q_has (n : Nat) {a k : Nat} (ha : a < 2147483648) (hk : k < 32) : fX8_has n (nI a) (nI k) = some (if a.testBit k = true then nI 1 else nI 0) := pu_has n ha hk
theorem q_hasBit (n : Nat) {a k : Nat} (ha : a < 2147483648) (hk : k < 32) : fX7_hasBit n (nI a) (nI k) = some (if a.testBit k = true then nI 1 else nI 0) := pu_hasBit n ha hk
theorem qg : (∀ (n : Nat) (v : Int32) (a b : Nat), a < 2147483648 → b < 2147483648 → fX8_in n v.toInt64 (lN a) (lN b) = some (if v < nI a ∨ nI b < v then nI 0 else nI 1)) ∧
    (∀ n a k : Nat, a < 2147483648 → k < 32 → fX8_has n (nI a) (nI k) = some (if a.testBit k = true then nI 1 else nI 0)) ∧
    (∀ n a k : Nat, a < 2147483648 → k < 32 → fX7_hasBit n (nI a) (nI k) = some (if a.testBit k = true then nI 1 else nI 0)) ∧
    (∀ a k : Nat, a < 2147483648 → k < 32 → (nI a >>> (nI k &&& nI 31)) &&& nI 1 = if a.testBit k = true then nI 1 else nI 0) ∧
    (∀ n a : Nat, a < 4096 → fJ6_bitCount_0f7a4 n (nI a) = some (nI (pc a))) ∧
    (∀ n N : Nat, ∀ v : Int32, fX3_hasMember n (nI N) v = some (inG v N)) ∧ (∀ n N : Nat, ∀ v : Int32, fX3_hasLeech n (nI N) v = some (inG v N)) ∧ (∀ n N : Nat, ∀ v : Int32, fX0_hasFact n (nI N) v = some (inG v N)) :=
  ⟨fun n v _ _ h k => q_in n v h k, fun n _ _ h k => q_has n h k, fun n _ _ h k => q_hasBit n h k, fun _ _ h k => pu_bit h k, fun n _ h => pu_bitCount n h, pu_hasMemberG, pu_hasLeechG, pu_hasFactG⟩
