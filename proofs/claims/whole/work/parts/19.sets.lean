/-- 1 where v numbers one of N, else 0 -/
def inG (v : Int32) (N : Nat) : Int32 := if v < 0 ∨ nI N ≤ v then 0 else 1
theorem inG_get {v : Int32} {N : Nat} (hN : N < 2 ^ 31) (h : ¬ (v < 0 ∨ nI N ≤ v)) : ∃ m, m < N ∧ v = nI m := by
  have h0 : 0 ≤ v.toInt := by
    have t : ¬ v < 0 := fun q => h (Or.inl q)
    rw [Int32.lt_iff_toInt_lt, show (0 : Int32).toInt = 0 from rfl] at t
    omega
  have h1 : v.toInt < N := by
    have t : ¬ nI N ≤ v := fun q => h (Or.inr q)
    rw [Int32.le_iff_toInt_le, nI_toInt hN] at t
    omega
  refine ⟨v.toInt.toNat, by omega, ?_⟩
  apply Int32.toInt_inj.mp
  rw [nI_toInt (by omega)]
  omega
theorem inG_1 {m N : Nat} (h : m < N) (hN : N < 2 ^ 31) : inG (nI m) N = 1 := if_neg (nI_inG h hN)
where nI_inG {m N : Nat} (h : m < N) (hN : N < 2 ^ 31) : ¬ (nI m < 0 ∨ nI N ≤ nI m) := fun q => q.elim (nI_pos (Nat.lt_trans h hN)) (nI_ge h hN)
theorem nI_predI (N : Nat) (hN : N < 2 ^ 31) : (nI N - 1).toInt = (N : Int) - 1 := by
  cases N with
  | zero => rfl
  | succ k =>
    rw [← nI_1 k, Int32.add_sub_cancel, nI_toInt (by omega)]
    omega
theorem pu_inN (n : Nat) (v : Int32) {N : Nat} (hN : N < 2 ^ 31) : fX8_in n v.toInt64 0 (nI N - 1).toInt64 = some (inG v N) := by
  rw [pu_in]
  unfold inG
  have e : (v.toInt64 < 0 ∨ (nI N - 1).toInt64 < v.toInt64) ↔ (v < 0 ∨ nI N ≤ v) := by
    rw [Int64.lt_iff_toInt_lt, Int64.lt_iff_toInt_lt, Int32.toInt_toInt64, Int32.toInt_toInt64, Int32.lt_iff_toInt_lt, Int32.le_iff_toInt_le, nI_predI N hN, nI_toInt hN, show (0 : Int64).toInt = 0 from rfl, show (0 : Int32).toInt = 0 from rfl]
    omega
  by_cases c : v < 0 ∨ nI N ≤ v
  · rw [if_pos c, if_pos (e.mpr c)]
  · rw [if_neg c, if_neg (fun q => c (e.mp q))]
theorem inG_01 (v : Int32) (N : Nat) : inG v N = 0 ∨ inG v N = 1 := by
  unfold inG
  split
  · exact Or.inl rfl
  · exact Or.inr rfl
theorem pu_isFact (n : Nat) {row : Nat → Int32} {N : Nat} (hN : N < 2 ^ 31) (h : row 23 = nI N) (v : Int32) : fX8_isFact n row v = some (inG v N) := by
  unfold fX8_isFact
  rw [h, pu_inN n v hN, Option.bind_some, if_pos (inG_01 v N)]
theorem pu_isMember (n : Nat) {row : Nat → Int32} {N : Nat} (hN : N < 2 ^ 31) (h : row 16 = nI N) (v : Int32) : fX8_isMember n row v = some (inG v N) := by
  unfold fX8_isMember
  rw [h, pu_inN n v hN, Option.bind_some, if_pos (inG_01 v N)]
theorem pu_isLeech (n : Nat) {row : Nat → Int32} {N : Nat} (hN : N < 2 ^ 31) (h : row 17 = nI N) (v : Int32) : fX8_isLeech n row v = some (inG v N) := by
  unfold fX8_isLeech
  rw [h, pu_inN n v hN, Option.bind_some, if_pos (inG_01 v N)]
theorem pu_areFacts (n : Nat) {row : Nat → Int32} {N : Nat} (hN : N ≤ 12) (h : row 23 = nI N) (v : Int32) : fX8_areFacts n row v = some (inG v (2 ^ N)) := by
  unfold fX8_areFacts
  have h2 : 2 ^ N < 2 ^ 31 := Nat.pow_lt_pow_right (by decide) (by omega)
  rw [h, pu_1shl (by omega), pu_inN n v h2, Option.bind_some, if_pos (inG_01 v _)]
/-- the class's own -/
theorem pu_hasMemberG (n : Nat) (N : Nat) (v : Int32) : fX3_hasMember n (nI N) v = some (inG v N) := by
  unfold fX3_hasMember fX3_hasMember_16 fX3_hasMember_17 inG
  by_cases c : v < 0
  · rw [if_pos c, if_pos (Or.inl c), if_pos (Or.inl rfl)]
  · rw [if_neg c]
    by_cases d : nI N ≤ v
    · rw [if_pos d, if_pos (Or.inr d), if_pos (Or.inl rfl)]
    · rw [if_neg d, if_pos (Or.inr rfl), if_neg (show ¬ (v < 0 ∨ nI N ≤ v) from fun q => q.elim c d)]
theorem pu_hasLeechG (n : Nat) (N : Nat) (v : Int32) : fX3_hasLeech n (nI N) v = some (inG v N) := by
  unfold fX3_hasLeech fX3_hasLeech_16 fX3_hasLeech_17 inG
  by_cases c : v < 0
  · rw [if_pos c, if_pos (Or.inl c), if_pos (Or.inl rfl)]
  · rw [if_neg c]
    by_cases d : nI N ≤ v
    · rw [if_pos d, if_pos (Or.inr d), if_pos (Or.inl rfl)]
    · rw [if_neg d, if_pos (Or.inr rfl), if_neg (show ¬ (v < 0 ∨ nI N ≤ v) from fun q => q.elim c d)]
