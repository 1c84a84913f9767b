/-- v is a, or minus a -/
def absL (v : Int64) (a : Nat) : Prop := v = lN a ∨ (v = -lN a ∧ 0 < a)
theorem absL_neg {a : Nat} (h : a < 2 ^ 63) (h0 : 0 < a) : -lN a < 0 := by
  rw [Int64.lt_iff_toInt_lt, Int64.toInt_neg, pk_lT h, Int.bmod_eq_of_le (by omega) (by omega)]
  show -(a : Int) < 0
  omega
theorem absL_cls {v : Int64} {a : Nat} (h : a < 2 ^ 63) (hv : absL v a) : (if 0 < v then v else -v) = lN a := by
  rcases hv with rfl | ⟨rfl, h0⟩
  · by_cases c : a = 0
    · subst c; rfl
    · rw [if_pos (show (0 : Int64) < lN a from (pk_lLT (a := 0) (by decide) h).mpr (by omega))]
  · have := absL_neg h h0
    rw [if_neg (fun q => Int64.lt_irrefl (Int64.lt_trans q this)), Int64.neg_neg]
theorem pu_setLowest {n j : Nat} (hj : j ≤ 49) (hn : 2 * j < n) (x y : Int64) {v w : Int64} {a b : Nat} (ha : a < 2 ^ 63) (hb : b < 2 ^ j) (h0 : 0 < b) (hv : absL v a) (hw : w = lN b) : fX1_setLowest n x y v w = some (v / lN (Nat.gcd a b), w / lN (Nat.gcd a b)) := by
  unfold fX1_setLowest fX1_commonDivisor
  have hp2 : 2 ^ j ≤ 2 ^ 63 := Nat.pow_le_pow_right (by decide) (by omega)
  have hg : 0 < Nat.gcd a b := Nat.gcd_pos_of_pos_right a h0
  have hg2 : Nat.gcd a b ≤ b := Nat.gcd_le_right a h0
  have h := pu_cd_loop n j a b 0 (n - 2 * j - 1) (by omega) ha hb (by omega)
  have e : n - 2 * j - 1 + 2 * j + 1 = n := by omega
  rw [e] at h
  have h' : fX1_commonDivisor_9 n n (lN a) w 0 = some (lN (Nat.gcd a b)) := by rw [hw]; exact h
  have n0 : ¬ lN (Nat.gcd a b) = 0 := lN_ne0 (by omega) (by omega)
  have nl : ¬ lg_cmp (lN (Nat.gcd a b)) 0 ≤ 0 := fun q => by
    have q2 := (lg_cmp_le _ _).mp q
    have q3 := (pk_lLE (b := 0) (by omega) (by decide)).mp q2
    omega
  rw [absL_cls ha hv, h', Option.bind_some, if_neg nl, if_neg n0, if_neg n0]
  rfl
theorem pu_partOf {n j : Nat} (hj : j ≤ 49) (hn : 2 * j < n) {v w : Int64} (o : Int32) {a b : Nat} (ha : a < 2 ^ 63) (hb : b < 2 ^ j) (h0 : 0 < b) (hv : absL v a) (hw : w = lN b) : fX8_partOf n v w o = some (if o = 0 then (v / lN (Nat.gcd a b)).toInt32 else (w / lN (Nat.gcd a b)).toInt32) := by
  unfold fX8_partOf fX8_partOf_12
  have hp2 : 2 ^ j ≤ 2 ^ 63 := Nat.pow_le_pow_right (by decide) (by omega)
  have hg : 0 < Nat.gcd a b := Nat.gcd_pos_of_pos_right a h0
  have h := pu_po_loop n v w o j a b (n - 2 * j - 1) (by omega) ha hb (by omega)
  have e : n - 2 * j - 1 + 2 * j + 1 = n := by omega
  rw [e, ← hw] at h
  rcases hv with rfl | ⟨rfl, h1⟩
  · rw [if_pos (show 0 ≤ lg_cmp (lN a) 0 from (lg_cmp_ge _ _).mpr ((pk_lLE (a := 0) (by decide) ha).mpr (Nat.zero_le _)))]
    exact h
  · have hl := absL_neg ha h1
    rw [if_neg (fun q => Int64.lt_irrefl (Int64.lt_of_lt_of_le hl ((lg_cmp_ge _ _).mp q))), Int64.neg_neg]
    exact h
theorem nI_subU {a b : Nat} (h : b ≤ a) : nI a - nI b = nI (a - b) := by
  have e := nI_add (a - b) b
  rw [Nat.sub_add_cancel h] at e
  rw [← e, Int32.add_sub_cancel]
/-- the class's part and the reference's -/
theorem pu_clear {n : Nat} (hn : 13 ≤ n) {row knows : Nat → Int32} {nf m k : Nat} (x y : Int64) (hnf : nf ≤ 12) (hm : m < 4) (h23 : row 23 = nI nf) (hk : k < 2 ^ nf) (hpc : pc k ≤ nf) (hkn : knows m = nI k) (hr : row (0 + m) = nI k) :
    ∃ a b, fX7_setClear n (nI nf) knows x y (nI m) = some (a, b) ∧ fX8_clear n row (nI m) 0 = some a.toInt32 ∧ fX8_clear n row (nI m) 1 = some b.toInt32 := by
  unfold fX7_setClear fX7_setClear_58 fX8_clear fX8_clear_36
  rw [h23]
  have hk4 := lt4096 hnf hk
  by_cases c : nf = 0
  · subst c
    have s := pu_setLowest (n := n) (j := 1) (v := 1) (w := 1) (a := 1) (b := 1) (by decide) (by omega) x y (by decide) (by decide) (by decide) (Or.inl rfl) rfl
    rw [if_pos nI_0, s, Option.bind_some]
    exact ⟨_, _, rfl, rfl, rfl⟩
  · have nc : ¬ nI nf = 0 := nI_ne0 (by omega) (by omega)
    have c1 := nI_inL (c := m) (N := 4) (by omega) (by decide)
    have k1 : (nI m).toNatClampNeg = m := nI_clamp (by omega)
    have e0 : (0 : Int32) + nI m = nI (0 + m) := nI_add 0 m
    have c0 := nI_inL (c := 0 + m) (N := 624) (by omega) (by decide)
    have k0 : (nI (0 + m)).toNatClampNeg = 0 + m := nI_clamp (by omega)
    have es : nI nf - nI (pc k) = nI (nf - pc k) := nI_subU hpc
    have l1 : (nI (nf - pc k)).toInt64 = lN (nf - pc k) := nI_l (by omega)
    have l2 : (nI nf).toInt64 = lN nf := nI_l (by omega)
    have s := pu_setLowest (n := n) (j := 4) (v := lN (nf - pc k)) (w := lN nf) (by decide) (by omega) x y (by omega) (show nf < 2 ^ 4 by omega) (by omega) (Or.inl rfl) rfl
    have p := fun o => pu_partOf (n := n) (j := 4) (v := lN (nf - pc k)) (w := lN nf) (by decide) (by omega) o (by omega) (show nf < 2 ^ 4 by omega) (by omega) (Or.inl rfl) rfl
    have cl : ∀ o : Int32, (if nI nf = 0 then some (1 : Int32) else if 0 + nI m < 0 ∨ 624 ≤ (0 + nI m).toNatClampNeg then none else (fX8_bits n (row (0 + nI m).toNatClampNeg)).bind fun z3 => (fX8_partOf n (nI nf - z3).toInt64 (nI nf).toInt64 o).bind fun z4 => some z4) = some (if o = 0 then (lN (nf - pc k) / lN (Nat.gcd (nf - pc k) nf)).toInt32 else (lN nf / lN (Nat.gcd (nf - pc k) nf)).toInt32) := by
      intro o
      rw [if_neg nc, e0, k0, if_neg c0, hr, pu_bits hn (by omega), Option.bind_some, es, l1, l2, p o, Option.bind_some]
    rw [cl 0, cl 1, if_pos rfl, if_neg (show ¬ (1 : Int32) = 0 by decide), if_neg nc, k1, if_neg c1, hkn, pu_bitCount n hk4, Option.bind_some, es, l1, l2, s, Option.bind_some]
    exact ⟨_, _, rfl, rfl, rfl⟩
