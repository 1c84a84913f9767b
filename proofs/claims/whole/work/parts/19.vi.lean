/-! reckon -/
theorem pu_rk_s (n : Nat) (sz st : Nat → Int32) (pl : Nat → Int64) (bl : Nat → Int32) (v1 v2 : Int32) (v9 v13 v15 : Int64) {a b : Nat} (ha : a < 2 ^ 63) (hb : b < 2 ^ 63) (c : b ≠ 0) (k : Nat) :
    fX8_reckon_225 n sz st (k + 1) pl bl v1 v2 v9 v13 v15 (lN a) (lN b) = fX8_reckon_225 n sz st k pl bl v1 v2 v9 v13 v15 (lN b) (lN (a % b)) := by
  rw [fX8_reckon_225]
  dsimp only
  rw [if_neg (cmp_ne0 hb c), if_neg (lN_ne0 hb c), pk_lRem ha (by omega) hb]
theorem pu_rk_loop (n : Nat) (sz st : Nat → Int32) (pl : Nat → Int64) (bl : Nat → Int32) (v1 v2 : Int32) (v9 v13 v15 : Int64) : ∀ (j a b q : Nat), j ≤ 62 → a < 2 ^ 63 → b < 2 ^ j →
    fX8_reckon_225 n sz st (q + 2 * j + 1) pl bl v1 v2 v9 v13 v15 (lN a) (lN b) = fX8_reckon_225 n sz st (0 + 1) pl bl v1 v2 v9 v13 v15 (lN (Nat.gcd a b)) (lN 0) := by
  intro j
  have fin : ∀ (a q : Nat), fX8_reckon_225 n sz st (q + 1) pl bl v1 v2 v9 v13 v15 (lN a) (lN 0) = fX8_reckon_225 n sz st (0 + 1) pl bl v1 v2 v9 v13 v15 (lN a) (lN 0) := by
    intro a q
    unfold fX8_reckon_225
    rw [if_pos cmp_0, if_pos cmp_0]
  induction j with
  | zero =>
    intro a b q hj ha hb
    have : b = 0 := by omega
    subst this
    rw [Nat.gcd_zero_right]
    exact fin a _
  | succ j ih =>
    intro a b q hj ha hb
    have hp : 2 ^ (j + 1) = 2 * 2 ^ j := by rw [Nat.pow_succ, Nat.mul_comm]
    have hp2 : 2 ^ (j + 1) ≤ 2 ^ 63 := Nat.pow_le_pow_right (by decide) (by omega)
    have e : q + 2 * (j + 1) + 1 = (q + 2 * j + 1 + 1) + 1 := by omega
    rw [e]
    by_cases c : b = 0
    · subst c
      rw [Nat.gcd_zero_right]
      exact fin a _
    · rw [gcd_next a b]
      have hr := Nat.mod_lt a (show 0 < b by omega)
      rw [pu_rk_s n sz st pl bl v1 v2 v9 v13 v15 ha (by omega) c]
      by_cases d : a % b = 0
      · rw [d, Nat.gcd_zero_right]
        exact fin b _
      · have hh := half_mod (show 0 < a % b by omega) hr
        rw [gcd_next b (a % b)]
        rw [pu_rk_s n sz st pl bl v1 v2 v9 v13 v15 (by omega) (by omega) d]
        exact ih (a % b) (b % (a % b)) q (by omega) (by omega) (by omega)
/-- a part that is lowest is laid as it is -/
theorem pu_low {n : Nat} (hn : 400 ≤ n) {v : Int64} {a b : Nat} (ha : a < 2 ^ 31) (hb : b < 2 ^ 31) (h0 : 0 < b) (hg : Nat.gcd a b = 1) (hv : absL v a) : fX8_partOf n v (lN b) (nI 0) = some v.toInt32 ∧ fX8_partOf n v (lN b) (nI 1) = some (nI b) := by
  obtain ⟨-, h2, h3, -, -⟩ := pu_part (n := n) (j := 31) (by decide) hn 0 0 (by omega) hb h0 hv rfl
  rw [hg, lN_div1] at h2
  rw [hg, Nat.div_one] at h3
  exact ⟨h2, h3⟩
/-- the reference: what is reckoned of above and below is laid, or not -/
theorem pu_rk199 {n : Nat} (hn : 400 ≤ n) {s i : Nat} (hs : s < 4) (hi : i < 10) (sz st : Nat → Int32) (pl : Nat → Int64) (bl : Nat → Int32) {v9 v13 v15 : Int64} {a b : Nat} (ha : a < 2 ^ 62) (hb : b < 2 ^ 49) (h0 : 0 < b) (hv : absL v15 a) (hw : v9 * v13 = lN b) (x y : Int64) :
    fX1_setLowest n x y v15 (lN b) = some (v15 / lN (Nat.gcd a b), lN (b / Nat.gcd a b)) ∧ 0 < b / Nat.gcd a b ∧ b / Nat.gcd a b ≤ b ∧
    ((fX7_isPart n (v15 / lN (Nat.gcd a b)) (lN (b / Nat.gcd a b)) = some (nI 0) ∧ fX8_reckon_199 n sz st pl bl (nI s) (nI i) v9 v13 v15 = some (-nI 4, pl, bl)) ∨
     (fX7_isPart n (v15 / lN (Nat.gcd a b)) (lN (b / Nat.gcd a b)) = some (nI 1) ∧ okP (v15 / lN (Nat.gcd a b)) (nI (b / Nat.gcd a b)) ∧ b / Nat.gcd a b ≤ 1000000 ∧
      fX8_reckon_199 n sz st pl bl (nI s) (nI i) v9 v13 v15 = some (nI 1, vp_updL pl (10 * s + i) (v15 / lN (Nat.gcd a b)), upd bl (10 * s + i) (nI (b / Nat.gcd a b))))) := by
  obtain ⟨p1, -, -, p4, p5⟩ := pu_part (n := n) (j := 49) (by decide) hn x y (a := a) (b := b) (by omega) hb h0 hv rfl
  have hg : 0 < Nat.gcd a b := Nat.gcd_pos_of_pos_right a h0
  have hg2 : Nat.gcd a b ≤ b := Nat.gcd_le_right a h0
  have l2 : b / Nat.gcd a b ≤ b := Nat.div_le_self _ _
  have l1 : a / Nat.gcd a b ≤ a := Nat.div_le_self _ _
  have co : Nat.gcd (a / Nat.gcd a b) (b / Nat.gcd a b) = 1 := Nat.gcd_div_gcd_div_gcd_of_pos_right h0
  refine ⟨p1, p5, l2, ?_⟩
  -- the loop
  have lp : fX8_reckon_199 n sz st pl bl (nI s) (nI i) v9 v13 v15 = fX8_reckon_225 n sz st (0 + 1) pl bl (nI s) (nI i) v9 v13 v15 (lN (Nat.gcd a b)) (lN 0) := by
    have h := pu_rk_loop n sz st pl bl (nI s) (nI i) v9 v13 v15 49 a b (n - 99) (by decide) (by omega) hb
    have e : n - 99 + 2 * 49 + 1 = n := by omega
    rw [e, ← hw] at h
    unfold fX8_reckon_199 fX8_reckon_216
    rcases hv with rfl | ⟨rfl, h1⟩
    · rw [if_pos (show 0 ≤ lg_cmp (lN a) 0 from (lg_cmp_ge _ _).mpr ((pk_lLE (a := 0) (by decide) (by omega)).mpr (Nat.zero_le _)))]
      exact h
    · have hl := absL_neg (show a < 2 ^ 63 by omega) h1
      rw [if_neg (fun q => Int64.lt_irrefl (Int64.lt_of_lt_of_le hl ((lg_cmp_ge _ _).mp q))), Int64.neg_neg]
      exact h
  have i6 := pu_isPart n (v15 / lN (Nat.gcd a b)) (lN (b / Nat.gcd a b))
  have j6 := pu_in6 n (v15 / lN (Nat.gcd a b))
  have ti := absL_toInt (show a / Nat.gcd a b < 2 ^ 63 by omega) p4
  have tj : (lN (b / Nat.gcd a b)).toInt = ((b / Nat.gcd a b : Nat) : Int) := pk_lT (by omega)
  have n0 : ¬ lN (Nat.gcd a b) = lN 0 := lN_ne0 (by omega) (by omega)
  have dv : v9 * v13 / lN (Nat.gcd a b) = lN (b / Nat.gcd a b) := by rw [hw]; exact pk_lDiv (by omega) hg (by omega)
  have mil : ((1000000 : Int64)) = lN 1000000 := rfl
  rw [tj] at i6
  rw [lp]
  by_cases c1 : -1000000 ≤ (v15 / lN (Nat.gcd a b)).toInt ∧ (v15 / lN (Nat.gcd a b)).toInt ≤ 1000000
  · rw [if_pos c1] at j6
    by_cases c2 : b / Nat.gcd a b ≤ 1000000
    · rw [if_pos (by omega)] at i6
      have a6 : a / Nat.gcd a b ≤ 1000000 := by
        rcases ti with e | e <;> rw [e] at c1 <;> omega
      have c3 : lg_cmp (lN (b / Nat.gcd a b)) 1000000 ≤ nI 0 := (lg_cmp_le _ _).mpr ((pk_lLE (b := 1000000) (by omega) (by decide)).mpr c2)
      obtain ⟨q1, q2⟩ := pu_low hn (a := a / Nat.gcd a b) (b := b / Nat.gcd a b) (by omega) (by omega) p5 co p4
      have q3 := absL_fit (by omega) p4
      right
      refine ⟨i6, Or.inr ⟨_, _, p4, a6, rfl, p5, c2⟩, c2, ?_⟩
      unfold fX8_reckon_225 fX8_layPart
      simp (disch := omega) only [Nat.zero_add, qa, qb, qbb, qc, qd, qe, qf, qg, Option.bind_some, reduceIte, or_false, false_or, or_self, or_true, true_or, and_true, true_and, and_false, false_and, not_true_eq_false, not_false_eq_true, cmpL0, n0, j6, dv, c3, q1, q2, q3]
    · rw [if_neg (by omega)] at i6
      have c3 : ¬ lg_cmp (lN (b / Nat.gcd a b)) 1000000 ≤ nI 0 := fun q => c2 ((pk_lLE (b := 1000000) (by omega) (by decide)).mp ((lg_cmp_le _ _).mp q))
      left
      refine ⟨i6, ?_⟩
      unfold fX8_reckon_225 fX8_reckon_282
      simp (disch := omega) only [Nat.zero_add, qa, qb, qbb, qc, qd, qe, qf, qg, Option.bind_some, reduceIte, or_false, false_or, or_self, or_true, true_or, and_true, true_and, and_false, false_and, not_true_eq_false, not_false_eq_true, cmpL0, n0, j6, dv, c3]
  · rw [if_neg c1] at j6
    rw [if_neg (by omega)] at i6
    left
    refine ⟨i6, ?_⟩
    unfold fX8_reckon_225 fX8_reckon_282
    simp (disch := omega) only [Nat.zero_add, qa, qb, qbb, qc, qd, qe, qf, qg, Option.bind_some, reduceIte, or_false, false_or, or_self, or_true, true_or, and_true, true_and, and_false, false_and, not_true_eq_false, not_false_eq_true, cmpL0, n0, j6]
theorem pu_isNo (n : Nat) {i : Nat} (hi : i < 10) {be : Nat → Int64} {v : Int64} {b : Int32} (h1 : be i = b.toInt64) (h2 : okP v b) : (b = nI 0 ∧ fX5_isNothingAt n (nI 2) be (nI i) = some (nI 1)) ∨ (∃ a y, absL v a ∧ a ≤ 1000000 ∧ b = nI y ∧ 1 ≤ y ∧ y ≤ 1000000 ∧ be i = lN y ∧ fX5_isNothingAt n (nI 2) be (nI i) = some (nI 0)) := by
  rcases h2 with ⟨-, rfl⟩ | ⟨a, y, e1, e2, rfl, e4, e5⟩
  · left
    have e : be i = lN 0 := h1.trans (nI_l (by decide))
    refine ⟨rfl, ?_⟩
    unfold fX5_isNothingAt fX5_isNothingAt_24
    simp (disch := omega) only [Nat.zero_add, qa, qb, qbb, qc, qd, qe, qf, qg, Option.bind_some, reduceIte, or_false, false_or, or_self, or_true, true_or, and_true, true_and, and_false, false_and, not_true_eq_false, not_false_eq_true, e, cmpL0]
  · right
    have e : be i = lN y := h1.trans (nI_l (by omega))
    have e7 := cmpLn (y := y) (by omega) (by omega)
    refine ⟨a, y, e1, e2, rfl, e4, e5, e, ?_⟩
    unfold fX5_isNothingAt fX5_isNothingAt_23 fX5_isNothingAt_24
    simp (disch := omega) only [Nat.zero_add, qa, qb, qbb, qc, qd, qe, qf, qg, Option.bind_some, reduceIte, or_false, false_or, or_self, or_true, true_or, and_true, true_and, and_false, false_and, not_true_eq_false, not_false_eq_true, e, e7]
