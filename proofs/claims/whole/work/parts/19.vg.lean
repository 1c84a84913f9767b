theorem pu_setPlace_n (n : Nat) {q i : Nat} (hq : q < 2) (hi : i < 10) (x y : Int64) (va be : Nat → Int64) (v4 v5 : Int32) : fX5_setPlace n (nI q) x y va be (nI i) v4 v5 = some (x, y, vp_updL va i (if q = 0 then v4.toInt64 else v4.toInt64 * 1000000000 + v5.toInt64), be) := by
  unfold fX5_setPlace fX5_setPlace_53 fX5_setPlace_54
  by_cases d : q = 0
  · simp (disch := omega) only [Nat.zero_add, qa, qb, qbb, qc, qd, qe, qf, qg, Option.bind_some, reduceIte, or_false, false_or, or_self, or_true, true_or, and_true, true_and, and_false, false_and, not_true_eq_false, not_false_eq_true, if_pos d]
  · simp (disch := omega) only [Nat.zero_add, qa, qb, qbb, qc, qd, qe, qf, qg, Option.bind_some, reduceIte, or_false, false_or, or_self, or_true, true_or, and_true, true_and, and_false, false_and, not_true_eq_false, not_false_eq_true, if_neg d]
theorem relT1_set {s q z i : Nat} {va be : Nat → Int64} {pl : Nat → Int64} {bl : Nat → Int32} (hq : q < 3) (hz : z ≤ 10) (hi : i < 10) (h : ∀ i, i < 10 → va i = pl (10 * s + i) ∧ be i = (bl (10 * s + i)).toInt64 ∧ (q = 2 → okP (pl (10 * s + i)) (bl (10 * s + i)))) {v w : Int64} {b : Int32} (hw : w = b.toInt64) (ho : q = 2 → okP v b) :
    relT1 s (nI q) (nI z) (vp_updL va i v) (vp_updL be i w) (nI z) (nI q) (vp_updL pl (10 * s + i) v) (upd bl (10 * s + i) b) := by
  refine Or.inr ⟨q, z, hq, hz, rfl, rfl, rfl, rfl, fun j hj => ?_⟩
  by_cases e : j = i
  · rw [ql.1 _ _ _ _ e, ql.1 _ _ _ _ e, ql.1 _ _ _ _ (by omega), qf.1 _ _ _ _ (by omega)]
    exact ⟨rfl, hw, ho⟩
  · rw [ql.2 _ _ _ _ e, ql.2 _ _ _ _ e, ql.2 _ _ _ _ (by omega), qf.2 _ _ _ _ (by omega)]
    exact h j hj
theorem updL_self (f : Nat → Int64) (i : Nat) : vp_updL f i (f i) = f := by
  funext j
  by_cases e : j = i
  · rw [ql.1 _ _ _ _ e, e]
  · rw [ql.2 _ _ _ _ e]
/-- a part laid: v over w, of sizes a and b -/
theorem pu_part {n j : Nat} (hj : j ≤ 49) (hn : 400 ≤ n) (x y : Int64) {v w : Int64} {a b : Nat} (ha : a < 2 ^ 63) (hb : b < 2 ^ j) (h0 : 0 < b) (hv : absL v a) (hw : w = lN b) :
    fX1_setLowest n x y v w = some (v / lN (Nat.gcd a b), lN (b / Nat.gcd a b)) ∧ fX8_partOf n v w (nI 0) = some (v / lN (Nat.gcd a b)).toInt32 ∧ fX8_partOf n v w (nI 1) = some (nI (b / Nat.gcd a b)) ∧ absL (v / lN (Nat.gcd a b)) (a / Nat.gcd a b) ∧ 0 < b / Nat.gcd a b := by
  have hp2 : 2 ^ j ≤ 2 ^ 63 := Nat.pow_le_pow_right (by decide) (by omega)
  have hg : 0 < Nat.gcd a b := Nat.gcd_pos_of_pos_right a h0
  have hg2 : Nat.gcd a b ≤ b := Nat.gcd_le_right a h0
  have e1 := pu_setLowest (n := n) hj (by omega) x y ha hb h0 hv hw
  have e2 := fun o => pu_partOf (n := n) hj (by omega) o ha hb h0 hv hw
  have e3 : w / lN (Nat.gcd a b) = lN (b / Nat.gcd a b) := by rw [hw]; exact pk_lDiv (by omega) hg (by omega)
  rw [e3] at e1
  refine ⟨e1, ?_, ?_, absL_div ha (by omega) hv, Nat.div_pos hg2 hg⟩
  · have := e2 (nI 0)
    rw [if_pos (by decide)] at this
    exact this
  · have := e2 (nI 1)
    rw [if_neg (by decide), e3, lN_i] at this
    exact this
/-- the call chalk -/
theorem pu_chalk {n : Nat} (hn : 400 ≤ n) {so si : Nat → Int32} {va be : Nat → Nat → Int64} {sz st : Nat → Int32} {pl : Nat → Int64} {bl : Nat → Int32} (h : relT so si va be sz st pl bl) (x y : Int64) (v1 v2 v3 v4 v5 : Int32) :
    ∃ (r : Int32) (x' y' : Int64) (va' be' : Nat → Nat → Int64) (pl' : Nat → Int64) (bl' : Nat → Int32), fX7_chalk n so si x y va be v1 v2 v3 v4 v5 = some (r, x', y', va', be') ∧ fX8_chalk n sz st pl bl v1 v2 v3 v4 v5 = some (r, pl', bl') ∧ relT so si va' be' sz st pl' bl' := by
  have i4 := pu_isSlate7 n
  have j4 := pu_isSlate8 n
  have i3 := pu_isSort7 n
  rcases inG_cas v1 (N := 4) (by omega) with g | ⟨s, hs, rfl, g⟩
  · refine ⟨-nI 2, x, y, va, be, pl, bl, ?_, ?_, h⟩
    · unfold fX7_chalk
      simp (disch := omega) only [Nat.zero_add, qa, qb, qbb, qc, qd, qe, qf, qg, Option.bind_some, reduceIte, or_false, false_or, or_self, or_true, true_or, and_true, true_and, and_false, false_and, not_true_eq_false, not_false_eq_true, i4, g]
    · unfold fX8_chalk
      simp (disch := omega) only [Nat.zero_add, qa, qb, qbb, qc, qd, qe, qf, qg, Option.bind_some, reduceIte, or_false, false_or, or_self, or_true, true_or, and_true, true_and, and_false, false_and, not_true_eq_false, not_false_eq_true, j4, g]
  · have done : ∀ (va' be' : Nat → Int64) (pl' : Nat → Int64) (bl' : Nat → Int32), relT1 s (so s) (si s) va' be' (sz s) (st s) pl' bl' → (∀ j, j < 10 * s ∨ 10 * s + 10 ≤ j → pl' j = pl j ∧ bl' j = bl j) → relT so si (va_up va s va') (va_up be s be') sz st pl' bl' := by
      intro va' be' pl' bl' k1 k2
      have := relT_up h k1 k2
      rw [up_self, up_self, upd_self rfl, upd_self rfl] at this
      exact this
    rcases q_cas v2 (a := 0) (N := 3) (by omega) (by omega) with ⟨q, -, hq, rfl⟩ | g1 | ⟨g1, -, g4, g2, g3⟩
    · have g2 := inG_1 hq (by omega)
      by_cases q2 : q = 2
      · subst q2
        have i6 := pu_isPart n v4.toInt64 v5.toInt64
        have j6 := pu_in6 n v4.toInt64
        have j1 := pu_in1 n v5.toInt64
        rw [Int32.toInt_toInt64, Int32.toInt_toInt64] at i6
        rw [Int32.toInt_toInt64] at j6 j1
        by_cases d4 : -1000000 ≤ v4.toInt ∧ v4.toInt ≤ 1000000
        · by_cases d5 : 1 ≤ v5.toInt ∧ v5.toInt ≤ 1000000
          · rw [if_pos (by omega)] at i6
            rw [if_pos d4] at j6
            rw [if_pos d5] at j1
            rcases pu_find n hs (h s hs) (nI 2) v3 with ⟨r, r0, f7, f8⟩ | ⟨q, z, i, b1, b2, b3, b4, b5, b6, b7, b8, b9, b10, f7, f8⟩
            · refine ⟨r, x, y, va, be, pl, bl, ?_, ?_, h⟩
              · unfold fX7_chalk fX7_chalk_37
                simp (disch := omega) only [Nat.zero_add, qa, qb, qbb, qc, qd, qe, qf, qg, Option.bind_some, reduceIte, or_false, false_or, or_self, or_true, true_or, and_true, true_and, and_false, false_and, not_true_eq_false, not_false_eq_true, i4, g, i3, g2, i6, f7, r0]
              · unfold fX8_chalk fX8_chalk_58
                simp (disch := omega) only [Nat.zero_add, qa, qb, qbb, qc, qd, qe, qf, qg, Option.bind_some, reduceIte, or_false, false_or, or_self, or_true, true_or, and_true, true_and, and_false, false_and, not_true_eq_false, not_false_eq_true, j4, g, j6, j1, f8, r0]
            · have eq : 2 = q := (nI_eq (by omega) (by omega)).mp b8
              subst eq
              subst b9
              rw [b4] at f7
              have hA : absL v4.toInt64 v4.toInt.natAbs := absL_of (by omega) (by rw [Int32.toInt_toInt64]; omega)
              have hB : v5.toInt64 = lN v5.toInt.toNat := by
                apply Int64.toInt_inj.mp
                rw [Int32.toInt_toInt64, pk_lT (by omega)]
                omega
              obtain ⟨p1, p2, p3, p4, p5⟩ := pu_part (n := n) (j := 20) (by decide) hn x y (a := v4.toInt.natAbs) (b := v5.toInt.toNat) (by omega) (by omega) (by omega) hA hB
              have l1 : v4.toInt.natAbs / Nat.gcd v4.toInt.natAbs v5.toInt.toNat ≤ v4.toInt.natAbs := Nat.div_le_self _ _
              have l2 : v5.toInt.toNat / Nat.gcd v4.toInt.natAbs v5.toInt.toNat ≤ v5.toInt.toNat := Nat.div_le_self _ _
              have p6 := absL_fit (by omega) p4
              refine ⟨nI 1, v4.toInt64 / lN (Nat.gcd v4.toInt.natAbs v5.toInt.toNat), lN (v5.toInt.toNat / Nat.gcd v4.toInt.natAbs v5.toInt.toNat), va_up va s (vp_updL (va s) i (v4.toInt64 / lN (Nat.gcd v4.toInt.natAbs v5.toInt.toNat))), va_up be s (vp_updL (be s) i (lN (v5.toInt.toNat / Nat.gcd v4.toInt.natAbs v5.toInt.toNat))), vp_updL pl (10 * s + i) (v4.toInt64 / lN (Nat.gcd v4.toInt.natAbs v5.toInt.toNat)), upd bl (10 * s + i) (nI (v5.toInt.toNat / Nat.gcd v4.toInt.natAbs v5.toInt.toNat)), ?_, ?_, done _ _ _ _ ?_ (fun j hj => ⟨ql.2 _ _ _ _ (by omega), qf.2 _ _ _ _ (by omega)⟩)⟩
              · unfold fX7_chalk fX7_chalk_37 fX5_setPlace fX5_setPlace_54 fX5_setPart
                simp (disch := omega) only [Nat.zero_add, qa, qb, qbb, qc, qd, qe, qf, qg, Option.bind_some, reduceIte, or_false, false_or, or_self, or_true, true_or, and_true, true_and, and_false, false_and, not_true_eq_false, not_false_eq_true, i4, g, i3, g2, i6, f7, b4, p1]
              · unfold fX8_chalk fX8_chalk_58 fX8_chalk_131 fX8_layPart
                simp (disch := omega) only [Nat.zero_add, qa, qb, qbb, qc, qd, qe, qf, qg, Option.bind_some, reduceIte, or_false, false_or, or_self, or_true, true_or, and_true, true_and, and_false, false_and, not_true_eq_false, not_false_eq_true, j4, g, j6, j1, f8, p2, p3, p6]
              · rw [b4, b5, b6, b7]
                exact relT1_set b1 b2 (by omega) b10 (nI_l (by omega)).symm (fun _ => Or.inr ⟨_, _, p4, by omega, rfl, by omega, by omega⟩)
          · rw [if_neg (by omega)] at i6
            rw [if_pos d4] at j6
            rw [if_neg d5] at j1
            refine ⟨-nI 3, x, y, va, be, pl, bl, ?_, ?_, h⟩
            · unfold fX7_chalk fX7_chalk_34
              simp (disch := omega) only [Nat.zero_add, qa, qb, qbb, qc, qd, qe, qf, qg, Option.bind_some, reduceIte, or_false, false_or, or_self, or_true, true_or, and_true, true_and, and_false, false_and, not_true_eq_false, not_false_eq_true, i4, g, i3, g2, i6]
            · unfold fX8_chalk fX8_chalk_55
              simp (disch := omega) only [Nat.zero_add, qa, qb, qbb, qc, qd, qe, qf, qg, Option.bind_some, reduceIte, or_false, false_or, or_self, or_true, true_or, and_true, true_and, and_false, false_and, not_true_eq_false, not_false_eq_true, j4, g, j6, j1]
        · rw [if_neg (by omega)] at i6
          rw [if_neg d4] at j6
          refine ⟨-nI 3, x, y, va, be, pl, bl, ?_, ?_, h⟩
          · unfold fX7_chalk fX7_chalk_34
            simp (disch := omega) only [Nat.zero_add, qa, qb, qbb, qc, qd, qe, qf, qg, Option.bind_some, reduceIte, or_false, false_or, or_self, or_true, true_or, and_true, true_and, and_false, false_and, not_true_eq_false, not_false_eq_true, i4, g, i3, g2, i6]
          · unfold fX8_chalk fX8_chalk_55
            simp (disch := omega) only [Nat.zero_add, qa, qb, qbb, qc, qd, qe, qf, qg, Option.bind_some, reduceIte, or_false, false_or, or_self, or_true, true_or, and_true, true_and, and_false, false_and, not_true_eq_false, not_false_eq_true, j4, g, j6]
      · rcases pu_find n hs (h s hs) (nI q) v3 with ⟨r, r0, f7, f8⟩ | ⟨q', z, i, b1, b2, b3, b4, b5, b6, b7, b8, b9, b10, f7, f8⟩
        · refine ⟨r, x, y, va, be, pl, bl, ?_, ?_, h⟩
          · unfold fX7_chalk fX7_chalk_37
            simp (disch := omega) only [Nat.zero_add, qa, qb, qbb, qc, qd, qe, qf, qg, Option.bind_some, reduceIte, or_false, false_or, or_self, or_true, true_or, and_true, true_and, and_false, false_and, not_true_eq_false, not_false_eq_true, i4, g, i3, g2, f7, r0]
          · unfold fX8_chalk fX8_chalk_58
            simp (disch := omega) only [Nat.zero_add, qa, qb, qbb, qc, qd, qe, qf, qg, Option.bind_some, reduceIte, or_false, false_or, or_self, or_true, true_or, and_true, true_and, and_false, false_and, not_true_eq_false, not_false_eq_true, j4, g, f8, r0]
        · have eq : q = q' := (nI_eq (by omega) (by omega)).mp b8
          subst eq
          subst b9
          rw [b4] at f7
          have e1 := pu_setPlace_n n (q := q) (i := i) (by omega) (by omega) x y (va s) (be s) v4 v5
          refine ⟨nI 1, x, y, va_up va s (vp_updL (va s) i (if q = 0 then v4.toInt64 else v4.toInt64 * 1000000000 + v5.toInt64)), be, vp_updL pl (10 * s + i) (if q = 0 then v4.toInt64 else v4.toInt64 * 1000000000 + v5.toInt64), bl, ?_, ?_, ?_⟩
          · unfold fX7_chalk fX7_chalk_37
            simp (disch := omega) only [Nat.zero_add, qa, qb, qbb, qc, qd, qe, qf, qg, Option.bind_some, reduceIte, or_false, false_or, or_self, or_true, true_or, and_true, true_and, and_false, false_and, not_true_eq_false, not_false_eq_true, i4, g, i3, g2, f7, b4, e1, up_self]
          · unfold fX8_chalk fX8_chalk_58 fX8_chalk_130 fX8_chalk_131
            by_cases q0 : q = 0
            · simp (disch := omega) only [Nat.zero_add, qa, qb, qbb, qc, qd, qe, qf, qg, Option.bind_some, reduceIte, or_false, false_or, or_self, or_true, true_or, and_true, true_and, and_false, false_and, not_true_eq_false, not_false_eq_true, j4, g, f8, if_pos q0]
            · simp (disch := omega) only [Nat.zero_add, qa, qb, qbb, qc, qd, qe, qf, qg, Option.bind_some, reduceIte, or_false, false_or, or_self, or_true, true_or, and_true, true_and, and_false, false_and, not_true_eq_false, not_false_eq_true, j4, g, f8, if_neg q0]
          · have t := relT1_set (s := s) (z := z) b1 b2 (show i < 10 by omega) b10 (v := if q = 0 then v4.toInt64 else v4.toInt64 * 1000000000 + v5.toInt64) (w := be s i) (b := bl (10 * s + i)) (b10 i (by omega)).2.1 (fun q => absurd q q2)
            rw [updL_self, upd_self rfl] at t
            have := done _ (be s) _ bl (by rw [b4, b5, b6, b7]; exact t) (fun j hj => ⟨ql.2 _ _ _ _ (by omega), rfl⟩)
            rw [up_self] at this
            exact this
    · have g2 : inG v2 3 = nI 0 := if_pos (Or.inl g1)
      refine ⟨-nI 3, x, y, va, be, pl, bl, ?_, ?_, h⟩
      · unfold fX7_chalk fX7_chalk_34
        simp (disch := omega) only [Nat.zero_add, qa, qb, qbb, qc, qd, qe, qf, qg, Option.bind_some, reduceIte, or_false, false_or, or_self, or_true, true_or, and_true, true_and, and_false, false_and, not_true_eq_false, not_false_eq_true, i4, g, i3, g2]
      · unfold fX8_chalk fX8_chalk_55
        simp (disch := omega) only [Nat.zero_add, qa, qb, qbb, qc, qd, qe, qf, qg, Option.bind_some, reduceIte, or_false, false_or, or_self, or_true, true_or, and_true, true_and, and_false, false_and, not_true_eq_false, not_false_eq_true, j4, g, g1]
    · have g5 : inG v2 3 = nI 0 := if_pos (Or.inr g4)
      refine ⟨-nI 3, x, y, va, be, pl, bl, ?_, ?_, h⟩
      · unfold fX7_chalk fX7_chalk_34
        simp (disch := omega) only [Nat.zero_add, qa, qb, qbb, qc, qd, qe, qf, qg, Option.bind_some, reduceIte, or_false, false_or, or_self, or_true, true_or, and_true, true_and, and_false, false_and, not_true_eq_false, not_false_eq_true, i4, g, i3, g5]
      · unfold fX8_chalk fX8_chalk_55
        simp (disch := omega) only [Nat.zero_add, qa, qb, qbb, qc, qd, qe, qf, qg, Option.bind_some, reduceIte, or_false, false_or, or_self, or_true, true_or, and_true, true_and, and_false, false_and, not_true_eq_false, not_false_eq_true, j4, g, g1, g3]
