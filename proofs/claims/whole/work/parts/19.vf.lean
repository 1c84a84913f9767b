theorem absL_toInt {v : Int64} {a : Nat} (ha : a < 2 ^ 63) (h : absL v a) : v.toInt = a ∨ v.toInt = -(a : Int) := by
  rcases h with rfl | ⟨rfl, h0⟩
  · exact Or.inl (pk_lT ha)
  · right
    rw [Int64.toInt_neg, pk_lT ha, Int.bmod_eq_of_le (by omega) (by omega)]
theorem absL_of {v : Int64} {a : Nat} (ha : a < 2 ^ 63) (h : v.toInt = a ∨ v.toInt = -(a : Int)) : absL v a := by
  rcases h with h | h
  · left
    apply Int64.toInt_inj.mp
    rw [h, pk_lT ha]
  · by_cases c : a = 0
    · left
      apply Int64.toInt_inj.mp
      rw [h, pk_lT ha, c]
      rfl
    · right
      refine ⟨?_, by omega⟩
      apply Int64.toInt_inj.mp
      rw [h, Int64.toInt_neg, pk_lT ha, Int.bmod_eq_of_le (by omega) (by omega)]
theorem lN_nm1 {g : Nat} (hg : g < 2 ^ 63) : lN g ≠ -1 := by
  intro e
  have h1 := pk_lT hg
  rw [e] at h1
  have h2 : (-1 : Int64).toInt = -1 := rfl
  omega
theorem absL_div {v : Int64} {a g : Nat} (ha : a < 2 ^ 63) (hg : g < 2 ^ 63) (h : absL v a) : absL (v / lN g) (a / g) := by
  have hd : a / g ≤ a := Nat.div_le_self _ _
  apply absL_of (by omega)
  rw [Int64.toInt_div_of_ne_right _ _ (lN_nm1 hg), pk_lT hg]
  rcases absL_toInt ha h with e | e
  · left
    rw [e, Int.ofNat_tdiv]
  · right
    rw [e, Int.neg_tdiv, Int.ofNat_tdiv]
theorem absL_fit {v : Int64} {a : Nat} (ha : a < 2 ^ 31) (h : absL v a) : v.toInt32.toInt64 = v := by
  apply Int64.toInt_inj.mp
  rw [Int32.toInt_toInt64, Int64.toInt_toInt32]
  rcases absL_toInt (by omega) h with e | e <;> rw [e] <;> exact Int.bmod_eq_of_le (by omega) (by omega)
theorem absL_mul {v w : Int64} {a b : Nat} (ha : a < 2 ^ 63) (hb : b < 2 ^ 63) (hab : a * b < 2 ^ 63) (h : absL v a) (k : absL w b) : absL (v * w) (a * b) := by
  have hc : ((a * b : Nat) : Int) = (a : Int) * b := Int.natCast_mul a b
  apply absL_of hab
  rw [Int64.toInt_mul]
  rcases absL_toInt ha h with e | e <;> rcases absL_toInt hb k with f | f <;> rw [e, f]
  · left
    rw [← hc]
    exact Int.bmod_eq_of_le (by omega) (by omega)
  · right
    rw [Int.mul_neg, ← hc]
    exact Int.bmod_eq_of_le (by omega) (by omega)
  · right
    rw [Int.neg_mul, ← hc]
    exact Int.bmod_eq_of_le (by omega) (by omega)
  · left
    rw [Int.neg_mul_neg, ← hc]
    exact Int.bmod_eq_of_le (by omega) (by omega)
theorem absL_add {v w : Int64} {a b : Nat} (ha : a < 2 ^ 61) (hb : b < 2 ^ 61) (h : absL v a) (k : absL w b) : ∃ c, c < 2 ^ 62 ∧ absL (v + w) c := by
  refine ⟨(v.toInt + w.toInt).natAbs, ?_, ?_⟩
  · rcases absL_toInt (by omega) h with e | e <;> rcases absL_toInt (by omega) k with f | f <;> rw [e, f] <;> omega
  · have hc : (v.toInt + w.toInt).natAbs < 2 ^ 62 := by rcases absL_toInt (by omega) h with e | e <;> rcases absL_toInt (by omega) k with f | f <;> rw [e, f] <;> omega
    apply absL_of (by omega)
    rw [Int64.toInt_add, Int.bmod_eq_of_le (by omega) (by omega)]
    omega
theorem absL_sub {v w : Int64} {a b : Nat} (ha : a < 2 ^ 61) (hb : b < 2 ^ 61) (h : absL v a) (k : absL w b) : ∃ c, c < 2 ^ 62 ∧ absL (v - w) c := by
  refine ⟨(v.toInt - w.toInt).natAbs, ?_, ?_⟩
  · rcases absL_toInt (by omega) h with e | e <;> rcases absL_toInt (by omega) k with f | f <;> rw [e, f] <;> omega
  · have hc : (v.toInt - w.toInt).natAbs < 2 ^ 62 := by rcases absL_toInt (by omega) h with e | e <;> rcases absL_toInt (by omega) k with f | f <;> rw [e, f] <;> omega
    apply absL_of (by omega)
    rw [Int64.toInt_sub, Int.bmod_eq_of_le (by omega) (by omega)]
    omega
theorem lN_div1 (v : Int64) : v / lN 1 = v := by
  apply Int64.toInt_inj.mp
  rw [Int64.toInt_div_of_ne_right _ _ (lN_nm1 (by decide)), pk_lT (by decide)]
  exact Int.tdiv_one _
theorem pu_isPart (n : Nat) (x y : Int64) : fX7_isPart n x y = some (if -1000000 ≤ x.toInt ∧ x.toInt ≤ 1000000 ∧ 1 ≤ y.toInt ∧ y.toInt ≤ 1000000 then nI 1 else nI 0) := by
  have t1 : (-1000000 : Int64).toInt = -1000000 := rfl
  have t2 : (1000000 : Int64).toInt = 1000000 := rfl
  have t3 : (1 : Int64).toInt = 1 := rfl
  unfold fX7_isPart fX7_isPart_34 fX7_isPart_35
  by_cases c1 : x.toInt < -1000000
  · rw [if_pos ((lg_cmp_lt _ _).mpr (Int64.lt_iff_toInt_lt.mpr (by rw [t1]; exact c1))), if_pos (Or.inl rfl), if_neg (by omega)]; rfl
  · rw [if_neg (fun q => c1 (by have := Int64.lt_iff_toInt_lt.mp ((lg_cmp_lt _ _).mp q); rw [t1] at this; exact this))]
    by_cases c2 : 1000000 < x.toInt
    · rw [if_pos ((lg_cmp_gt _ _).mpr (Int64.lt_iff_toInt_lt.mpr (by rw [t2]; exact c2))), if_pos (Or.inl rfl), if_neg (by omega)]; rfl
    · rw [if_neg (fun q => c2 (by have := Int64.lt_iff_toInt_lt.mp ((lg_cmp_gt _ _).mp q); rw [t2] at this; exact this))]
      by_cases c3 : y.toInt < 1
      · rw [if_pos ((lg_cmp_lt _ _).mpr (Int64.lt_iff_toInt_lt.mpr (by rw [t3]; exact c3))), if_pos (Or.inl rfl), if_neg (by omega)]; rfl
      · rw [if_neg (fun q => c3 (by have := Int64.lt_iff_toInt_lt.mp ((lg_cmp_lt _ _).mp q); rw [t3] at this; exact this))]
        by_cases c4 : 1000000 < y.toInt
        · rw [if_pos ((lg_cmp_gt _ _).mpr (Int64.lt_iff_toInt_lt.mpr (by rw [t2]; exact c4))), if_pos (Or.inl rfl), if_neg (by omega)]; rfl
        · rw [if_neg (fun q => c4 (by have := Int64.lt_iff_toInt_lt.mp ((lg_cmp_gt _ _).mp q); rw [t2] at this; exact this)), if_pos (Or.inr rfl), if_pos (by omega)]; rfl
theorem pu_in6 (n : Nat) (x : Int64) : fX8_in n x (-1000000) 1000000 = some (if -1000000 ≤ x.toInt ∧ x.toInt ≤ 1000000 then nI 1 else nI 0) := by
  have t1 : (-1000000 : Int64).toInt = -1000000 := rfl
  have t2 : (1000000 : Int64).toInt = 1000000 := rfl
  rw [pu_in]
  by_cases c : -1000000 ≤ x.toInt ∧ x.toInt ≤ 1000000
  · rw [if_pos c, if_neg (fun q => by rw [Int64.lt_iff_toInt_lt, Int64.lt_iff_toInt_lt, t1, t2] at q; omega)]; rfl
  · rw [if_neg c, if_pos (by rw [Int64.lt_iff_toInt_lt, Int64.lt_iff_toInt_lt, t1, t2]; omega)]; rfl
theorem pu_in1 (n : Nat) (x : Int64) : fX8_in n x (lN 1) 1000000 = some (if 1 ≤ x.toInt ∧ x.toInt ≤ 1000000 then nI 1 else nI 0) := by
  have t1 : (lN 1).toInt = 1 := rfl
  have t2 : (1000000 : Int64).toInt = 1000000 := rfl
  rw [pu_in]
  by_cases c : 1 ≤ x.toInt ∧ x.toInt ≤ 1000000
  · rw [if_pos c, if_neg (fun q => by rw [Int64.lt_iff_toInt_lt, Int64.lt_iff_toInt_lt, t1, t2] at q; omega)]; rfl
  · rw [if_neg c, if_pos (by rw [Int64.lt_iff_toInt_lt, Int64.lt_iff_toInt_lt, t1, t2]; omega)]; rfl
theorem pu_hasPlace (n z : Nat) (v : Int32) : fX5_hasPlace n (nI z) v = some (inG v z) := pu_hasMemberG n z v
theorem q_inz (n : Nat) (v : Int32) {z : Nat} (hz : z < 2147483648) : fX8_in n v.toInt64 (lN 0) (nI z - nI 1).toInt64 = some (inG v z) := pu_inN n v hz
/-- a place that is asked for -/
theorem pu_find (n : Nat) {s : Nat} (hs : s < 4) {so si : Int32} {va be : Nat → Int64} {sz st : Nat → Int32} {pl : Nat → Int64} {bl : Nat → Int32} (h : relT1 s so si va be (sz s) (st s) pl bl) (v2 v3 : Int32) :
    (∃ r, ¬ r = nI 0 ∧ fX5_findPlace n so si v2 v3 = some r ∧ fX8_noPlace n sz st (nI s) v2 v3 = some r) ∨
    (∃ q z i, q < 3 ∧ z ≤ 10 ∧ i < z ∧ so = nI q ∧ st s = nI q ∧ si = nI z ∧ sz s = nI z ∧ v2 = nI q ∧ v3 = nI i ∧ (∀ i, i < 10 → va i = pl (10 * s + i) ∧ be i = (bl (10 * s + i)).toInt64 ∧ (q = 2 → okP (pl (10 * s + i)) (bl (10 * s + i)))) ∧ fX5_findPlace n so si v2 v3 = some (nI 0) ∧ fX8_noPlace n sz st (nI s) v2 v3 = some (nI 0)) := by
  obtain ⟨m1, m2⟩ := pu_missing n
  rcases h with ⟨a1, a2⟩ | ⟨q, z, b1, b2, b3, b4, b5, b6, b7⟩
  · left
    have a3 : ¬ nI 0 ≤ onI 0 := by decide
    refine ⟨-nI 11, by decide, ?_, ?_⟩
    · unfold fX5_findPlace
      simp (disch := omega) only [Nat.zero_add, qa, qb, qbb, qc, qd, qe, qf, qg, Option.bind_some, reduceIte, or_false, false_or, or_self, or_true, true_or, and_true, true_and, and_false, false_and, not_true_eq_false, not_false_eq_true, a1, m1]
    · unfold fX8_noPlace
      simp (disch := omega) only [Nat.zero_add, qa, qb, qbb, qc, qd, qe, qf, qg, Option.bind_some, reduceIte, or_false, false_or, or_self, or_true, true_or, and_true, true_and, and_false, false_and, not_true_eq_false, not_false_eq_true, a2, a3]
  · have m3 := m2 q b1
    have p1 := pu_hasPlace n z
    have p2 := q_inz n v3 (z := z) (by omega)
    by_cases e : nI q = v2
    · subst e
      rcases inG_cas v3 (N := z) (by omega) with g | ⟨i, hi, rfl, g⟩
      · left
        refine ⟨-nI 14, by decide, ?_, ?_⟩
        · unfold fX5_findPlace fX5_findPlace_35
          simp (disch := omega) only [Nat.zero_add, qa, qb, qbb, qc, qd, qe, qf, qg, Option.bind_some, reduceIte, or_false, false_or, or_self, or_true, true_or, and_true, true_and, and_false, false_and, not_true_eq_false, not_false_eq_true, b3, b5, m3, p1, g]
        · unfold fX8_noPlace fX8_noPlace_49
          simp (disch := omega) only [Nat.zero_add, qa, qb, qbb, qc, qd, qe, qf, qg, Option.bind_some, reduceIte, or_false, false_or, or_self, or_true, true_or, and_true, true_and, and_false, false_and, not_true_eq_false, not_false_eq_true, b4, b6, p2, g]
      · right
        refine ⟨q, z, i, b1, b2, hi, b3, b4, b5, b6, rfl, rfl, b7, ?_, ?_⟩
        · unfold fX5_findPlace fX5_findPlace_35
          simp (disch := omega) only [Nat.zero_add, qa, qb, qbb, qc, qd, qe, qf, qg, Option.bind_some, reduceIte, or_false, false_or, or_self, or_true, true_or, and_true, true_and, and_false, false_and, not_true_eq_false, not_false_eq_true, b3, b5, m3, p1, g]
        · have p3 := pu_inN n (nI i) (N := z) (by omega)
          unfold fX8_noPlace fX8_noPlace_49
          have c1 := nI_inL (c := s) (N := 4) hs (by decide)
          have k1 : (nI s).toNatClampNeg = s := nI_clamp (by omega)
          rw [k1, if_neg c1, b6, if_pos (show (0 : Int32) ≤ nI z from nI_le (a := 0) (Nat.zero_le _) (by omega)), if_neg c1, b4, if_pos rfl, if_neg c1, p3, Option.bind_some, g, if_neg (show ¬ nI 1 = (0 : Int32) by decide)]
          rfl
    · left
      refine ⟨-nI 12, by decide, ?_, ?_⟩
      · unfold fX5_findPlace
        simp (disch := omega) only [Nat.zero_add, qa, qb, qbb, qc, qd, qe, qf, qg, Option.bind_some, reduceIte, or_false, false_or, or_self, or_true, true_or, and_true, true_and, and_false, false_and, not_true_eq_false, not_false_eq_true, b3, m3, e]
      · unfold fX8_noPlace
        simp (disch := omega) only [Nat.zero_add, qa, qb, qbb, qc, qd, qe, qf, qg, Option.bind_some, reduceIte, or_false, false_or, or_self, or_true, true_or, and_true, true_and, and_false, false_and, not_true_eq_false, not_false_eq_true, b4, b6, e]
