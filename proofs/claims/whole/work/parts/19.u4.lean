theorem pcN_const {a nf : Nat} (h : a < 2 ^ nf) : ∀ d, pcN a (nf + d) = pcN a nf := by
  intro d
  induction d with
  | zero => rfl
  | succ d ih =>
    have e : nf + (d + 1) = (nf + d) + 1 := by omega
    have b : a.testBit (nf + d) = false := Nat.testBit_lt_two_pow (Nat.lt_of_lt_of_le h (Nat.pow_le_pow_right (by decide) (by omega)))
    rw [e, pcN, b, ih]
    rfl
theorem pc_le_nf {a nf : Nat} (hnf : nf ≤ 12) (h : a < 2 ^ nf) : pc a ≤ nf := by
  have e := pcN_const h (12 - nf)
  have e2 : nf + (12 - nf) = 12 := by omega
  rw [e2] at e
  show pcN a 12 ≤ nf
  rw [e]
  exact pcN_le a nf
/-- whom a leech is on: the rooms' two ways -/
theorem onI_eq {o m : Nat} (ho : o < 2 ^ 30) (hm : m < 2 ^ 30) : (onI o = nI m ↔ decide (o = m + 1) = true) := by
  rw [decide_eq_true_eq]
  constructor
  · intro h
    cases o with
    | zero => exact absurd h.symm (onI_nn1 (by omega))
    | succ k =>
      rw [onI_s] at h
      have := (nI_eq (by omega) (by omega)).mp h
      omega
  · rintro rfl
    exact onI_s m
theorem onI_eq_n {o : Nat} (ho : o < 2 ^ 30) : (onI o = -1 ↔ decide (o = 0) = true) := by
  rw [decide_eq_true_eq]
  constructor
  · intro h
    cases o with
    | zero => rfl
    | succ k =>
      rw [onI_s] at h
      exact absurd h (onI_nn1 (by omega))
  · rintro rfl
    rfl
/-- the call member -/
theorem pu_member {n : Nat} (hn : 13 ≤ n) {row knows on : Nat → Int32} {nf nm nl : Nat} {K O : Nat → Nat} (x y : Int64) (hnf : nf ≤ 12) (hnm : nm ≤ 4) (hnl : nl ≤ 5) (h23 : row 23 = nI nf) (h16 : row 16 = nI nm) (h17 : row 17 = nI nl)
    (hK : ∀ j, j < nm → K j < 2 ^ nf ∧ knows j = nI (K j) ∧ row (0 + j) = nI (K j)) (hO : ∀ j, j < nl → O j ≤ nm ∧ on j = onI (O j) ∧ row (4 + j) = onI (O j)) (v w : Int32) :
    ∃ r x' y', fX7_member n (nI nm) knows (nI nl) on (nI nf) x y v w = some (r, x', y') ∧ fX8_member n row v w = some r := by
  unfold fX7_member fX8_member
  rw [pu_hasMemberG, pu_isMember n (by omega) h16, Option.bind_some, Option.bind_some]
  by_cases g : v < 0 ∨ nI nm ≤ v
  · have e : inG v nm = 0 := if_pos g
    rw [e, if_pos rfl, if_pos rfl]
    exact ⟨_, _, _, rfl, rfl⟩
  · obtain ⟨m, hm, rfl⟩ := inG_get (by omega) g
    have e : inG (nI m) nm = 1 := if_neg g
    obtain ⟨k1, k2, k3⟩ := hK m hm
    have c4 := nI_inL (c := m) (N := 4) (by omega) (by decide)
    have q4 : (nI m).toNatClampNeg = m := nI_clamp (by omega)
    have e0 : (0 : Int32) + nI m = nI (0 + m) := nI_add 0 m
    have c0 := nI_inL (c := 0 + m) (N := 624) (by omega) (by decide)
    have q0 : (nI (0 + m)).toNatClampNeg = 0 + m := nI_clamp (by omega)
    have n10 : ¬ (1 : Int32) = 0 := by decide
    obtain ⟨a, b, s1, s2, s3⟩ := pu_clear hn (row := row) (knows := knows) x y hnf (by omega : m < 4) h23 k1 (pc_le_nf hnf k1) k2 k3
    have l1 := pu_leechesOn hn (on := on) (v := nI m) (p := fun l => decide (O l = m + 1)) hnl (fun l hl => by
      have := (hO l hl).1
      rw [(hO l hl).2.1]; exact onI_eq (by omega) (by omega))
    have l2 := pu_leechesOnM hn (row := row) (v := nI m) (p := fun l => decide (O l = m + 1)) hnl h17 (fun l hl => by
      have := (hO l hl).1
      rw [(hO l hl).2.2]; exact onI_eq (by omega) (by omega))
    rw [e, if_neg n10, if_neg n10]
    by_cases w0 : w = 0
    · rw [if_pos w0, if_pos w0, q4, if_neg c4, e0, q0, if_neg c0, k2, k3]; exact ⟨_, _, _, rfl, rfl⟩
    rw [if_neg w0, if_neg w0]
    by_cases w1 : w = 1
    · rw [if_pos w1, if_pos w1, l1, l2, Option.bind_some, Option.bind_some]; exact ⟨_, _, _, rfl, rfl⟩
    rw [if_neg w1, if_neg w1]
    by_cases w2 : w = 2
    · rw [if_pos w2, if_pos w2, s1, s2, Option.bind_some, Option.bind_some]; exact ⟨_, _, _, rfl, rfl⟩
    rw [if_neg w2, if_neg w2]
    by_cases w3 : w = 3
    · rw [if_pos w3, if_pos w3, s1, s3, Option.bind_some, Option.bind_some]; exact ⟨_, _, _, rfl, rfl⟩
    rw [if_neg w3, if_neg w3]
    exact ⟨_, _, _, rfl, rfl⟩
