theorem pu_np (n : Nat) {s z : Nat} (hs : s < 4) (hz : z ≤ 10) {sz st : Nat → Int32} (h1 : sz s = nI z) (h2 : st s = nI 2) (v : Int32) :
    (inG v z = nI 0 → fX8_noPlace n sz st (nI s) (nI 2) v = some (-nI 14)) ∧ (∀ i, v = nI i → i < z → fX8_noPlace n sz st (nI s) (nI 2) v = some (nI 0)) := by
  have c1 := nI_inL (c := s) (N := 4) hs (by decide)
  have k1 : (nI s).toNatClampNeg = s := nI_clamp (by omega)
  have p3 := pu_inN n v (N := z) (by omega)
  have c2 : (0 : Int32) ≤ nI z := nI_le (a := 0) (Nat.zero_le _) (by omega)
  constructor
  · intro g
    unfold fX8_noPlace fX8_noPlace_49
    rw [k1, if_neg c1, h1, if_pos c2, if_neg c1, h2, if_pos rfl, if_neg c1, p3, Option.bind_some, g, if_pos (show nI 0 = (0 : Int32) from rfl)]
    rfl
  · rintro i rfl hi
    have g := inG_1 hi (by omega)
    unfold fX8_noPlace fX8_noPlace_49
    rw [k1, if_neg c1, h1, if_pos c2, if_neg c1, h2, if_pos rfl, if_neg c1, p3, Option.bind_some, g, if_neg (show ¬ (1 : Int32) = 0 by decide)]
    rfl
/-- what is reckoned, above -/
def rkV (w : Nat) (v u : Int64) (y1 y2 : Nat) : Int64 := if w = 0 then v * lN y2 + u * lN y1 else if w = 1 then v * lN y2 - u * lN y1 else v * u
theorem rkV_abs {w a1 a2 y1 y2 : Nat} {v u : Int64} (h1 : absL v a1) (h2 : absL u a2) (b1 : a1 ≤ 1000000) (b2 : a2 ≤ 1000000) (b3 : y1 ≤ 1000000) (b4 : y2 ≤ 1000000) : ∃ c, c < 2 ^ 62 ∧ absL (rkV w v u y1 y2) c := by
  have m : ∀ p q, p ≤ 1000000 → q ≤ 1000000 → p * q ≤ 1000000 * 1000000 := fun p q hp hq => Nat.mul_le_mul hp hq
  have m1 := m a1 y2 b1 b4
  have m2 := m a2 y1 b2 b3
  have m3 := m a1 a2 b1 b2
  have t1 : absL (v * lN y2) (a1 * y2) := absL_mul (by omega) (by omega) (by omega) h1 (Or.inl rfl)
  have t2 : absL (u * lN y1) (a2 * y1) := absL_mul (by omega) (by omega) (by omega) h2 (Or.inl rfl)
  unfold rkV
  by_cases w0 : w = 0
  · rw [if_pos w0]
    exact absL_add (by omega) (by omega) t1 t2
  · rw [if_neg w0]
    by_cases w1 : w = 1
    · rw [if_pos w1]
      exact absL_sub (by omega) (by omega) t1 t2
    · rw [if_neg w1]
      exact ⟨a1 * a2, by omega, absL_mul (by omega) (by omega) (by omega) h1 h2⟩
theorem pu_setReckoned (n : Nat) {j k w y1 y2 : Nat} (hj : j < 10) (hk : k < 10) (hw : w < 3) {va be : Nat → Int64} {v u : Int64} (e1 : va j = v) (e2 : va k = u) (e3 : be j = lN y1) (e4 : be k = lN y2) (x y : Int64) : fX7_setReckoned n va be x y (nI j) (nI k) (nI w) = fX1_setLowest n x y (rkV w v u y1 y2) (lN (y1 * y2)) := by
  have m := lN_mul y1 y2
  have id2 : ∀ o : Option (Int64 × Int64), (o.bind fun z => some (z.1, z.2)) = o := fun o => by cases o <;> rfl
  unfold fX7_setReckoned fX7_setReckoned_112 rkV
  by_cases w0 : w = 0
  · simp (disch := omega) only [Nat.zero_add, qa, qb, qbb, qc, qd, qe, qf, qg, Option.bind_some, reduceIte, or_false, false_or, or_self, or_true, true_or, and_true, true_and, and_false, false_and, not_true_eq_false, not_false_eq_true, e1, e2, e3, e4, m, w0, id2]
  · by_cases w1 : w = 1
    · simp (disch := omega) only [Nat.zero_add, qa, qb, qbb, qc, qd, qe, qf, qg, Option.bind_some, reduceIte, or_false, false_or, or_self, or_true, true_or, and_true, true_and, and_false, false_and, not_true_eq_false, not_false_eq_true, e1, e2, e3, e4, m, w0, w1, id2]
      rfl
    · simp (disch := omega) only [Nat.zero_add, qa, qb, qbb, qc, qd, qe, qf, qg, Option.bind_some, reduceIte, or_false, false_or, or_self, or_true, true_or, and_true, true_and, and_false, false_and, not_true_eq_false, not_false_eq_true, e1, e2, e3, e4, m, w0, w1, id2]
theorem pu_rk72 (n : Nat) {s i j k w y1 y2 : Nat} (hs : s < 4) (hj : j < 10) (hk : k < 10) (hw : w < 3) {sz st : Nat → Int32} {pl : Nat → Int64} {bl : Nat → Int32} (hy1 : 1 ≤ y1 ∧ y1 ≤ 1000000) (hy2 : 1 ≤ y2 ∧ y2 ≤ 1000000) (e3 : bl (10 * s + j) = nI y1) (e4 : bl (10 * s + k) = nI y2) :
    fX8_reckon_72 n sz st pl bl (nI s) (nI i) (nI j) (nI k) (nI w) (nI 0) = fX8_reckon_199 n sz st pl bl (nI s) (nI i) (lN y1) (lN y2) (rkV w (pl (10 * s + j)) (pl (10 * s + k)) y1 y2) := by
  have n1 := cmpLn (y := y1) (by omega) (by omega)
  have n2 := cmpLn (y := y2) (by omega) (by omega)
  have l1 : (nI y1).toInt64 = lN y1 := nI_l (by omega)
  have l2 : (nI y2).toInt64 = lN y2 := nI_l (by omega)
  unfold fX8_reckon_72 rkV
  by_cases w0 : w = 0
  · simp (disch := omega) only [Nat.zero_add, qa, qb, qbb, qc, qd, qe, qf, qg, Option.bind_some, reduceIte, or_false, false_or, or_self, or_true, true_or, and_true, true_and, and_false, false_and, not_true_eq_false, not_false_eq_true, e3, e4, l1, l2, n1, n2, w0]
  · by_cases w1 : w = 1
    · simp (disch := omega) only [Nat.zero_add, qa, qb, qbb, qc, qd, qe, qf, qg, Option.bind_some, reduceIte, or_false, false_or, or_self, or_true, true_or, and_true, true_and, and_false, false_and, not_true_eq_false, not_false_eq_true, e3, e4, l1, l2, n1, n2, w0, w1]
      rfl
    · simp (disch := omega) only [Nat.zero_add, qa, qb, qbb, qc, qd, qe, qf, qg, Option.bind_some, reduceIte, or_false, false_or, or_self, or_true, true_or, and_true, true_and, and_false, false_and, not_true_eq_false, not_false_eq_true, e3, e4, l1, l2, n1, n2, w0, w1]
theorem rk_open (n : Nat) {s w : Nat} (hs : s < 4) (hw : w < 3) (sz st : Nat → Int32) (pl : Nat → Int64) (bl : Nat → Int32) (v2 v3 v4 : Int32) {r : Int32} (h : fX8_noPlace n sz st (nI s) (nI 2) v3 = some r) :
    fX8_reckon n sz st pl bl (nI s) v2 v3 v4 (nI w) = if r = nI 0 then (fX8_noPlace n sz st (nI s) (nI 2) v4).bind fun z7 => fX8_reckon_53 n sz st pl bl (nI s) v2 v3 v4 (nI w) z7 else fX8_reckon_53 n sz st pl bl (nI s) v2 v3 v4 (nI w) r := by
  have q := q_in n (nI w) (a := 0) (b := 2) (by decide) (by decide)
  rw [if_neg (fun k => k.elim (nI_pos (by omega)) (fun k2 => nI_nlt (a := 2) (b := w) (by omega) (by omega) k2))] at q
  unfold fX8_reckon
  rw [pu_isSlate8, Option.bind_some, inG_1 hs (by omega), if_neg (show ¬ (1 : Int32) = 0 by decide), show fX8_in n (nI w).toInt64 0 2 = some (nI 1) from q, Option.bind_some, if_neg (show ¬ nI 1 = (0 : Int32) by decide), show fX8_noPlace n sz st (nI s) 2 v3 = some r from h, Option.bind_some]
  rfl
theorem r72_ne (n : Nat) (sz st : Nat → Int32) (pl : Nat → Int64) (bl : Nat → Int32) (v1 v2 v3 v4 v5 : Int32) {r : Int32} (h : ¬ r = nI 0) : fX8_reckon_72 n sz st pl bl v1 v2 v3 v4 v5 r = some (r, pl, bl) := by
  unfold fX8_reckon_72
  rw [if_neg (show ¬ r = 0 from h)]
theorem r53_ne (n : Nat) (sz st : Nat → Int32) (pl : Nat → Int64) (bl : Nat → Int32) (v1 v2 v3 v4 v5 : Int32) {r : Int32} (h : ¬ r = nI 0) : fX8_reckon_53 n sz st pl bl v1 v2 v3 v4 v5 r = some (r, pl, bl) := by
  unfold fX8_reckon_53
  rw [if_neg (show ¬ r = 0 from h)]
  exact r72_ne n sz st pl bl v1 v2 v3 v4 v5 h
theorem r53_0 (n : Nat) (sz st : Nat → Int32) (pl : Nat → Int64) (bl : Nat → Int32) (v1 v2 v3 v4 v5 : Int32) {r : Int32} (h : fX8_noPlace n sz st v1 (nI 2) v2 = some r) : fX8_reckon_53 n sz st pl bl v1 v2 v3 v4 v5 (nI 0) = fX8_reckon_72 n sz st pl bl v1 v2 v3 v4 v5 r := by
  unfold fX8_reckon_53
  rw [if_pos nI_0, show fX8_noPlace n sz st v1 2 v2 = some r from h, Option.bind_some]
/-- where a reckoning finds its parts -/
theorem pu_rkpre (n : Nat) {s w : Nat} (hs : s < 4) (hw : w < 3) {so si : Int32} {va be : Nat → Int64} {sz st : Nat → Int32} {pl : Nat → Int64} {bl : Nat → Int32} (h : relT1 s so si va be (sz s) (st s) pl bl) (v2 v3 v4 : Int32) :
    (∃ r, ¬ r = nI 0 ∧ fX5_findParts n so si be v2 v3 v4 = some r ∧ fX8_reckon n sz st pl bl (nI s) v2 v3 v4 (nI w) = some (r, pl, bl)) ∨
    (∃ z i j k a1 y1 a2 y2, z ≤ 10 ∧ i < z ∧ j < z ∧ k < z ∧ v2 = nI i ∧ v3 = nI j ∧ v4 = nI k ∧ so = nI 2 ∧ st s = nI 2 ∧ si = nI z ∧ sz s = nI z ∧
      (∀ i, i < 10 → va i = pl (10 * s + i) ∧ be i = (bl (10 * s + i)).toInt64 ∧ (2 = 2 → okP (pl (10 * s + i)) (bl (10 * s + i)))) ∧
      absL (pl (10 * s + j)) a1 ∧ a1 ≤ 1000000 ∧ bl (10 * s + j) = nI y1 ∧ 1 ≤ y1 ∧ y1 ≤ 1000000 ∧ be j = lN y1 ∧
      absL (pl (10 * s + k)) a2 ∧ a2 ≤ 1000000 ∧ bl (10 * s + k) = nI y2 ∧ 1 ≤ y2 ∧ y2 ≤ 1000000 ∧ be k = lN y2 ∧
      fX5_findParts n so si be v2 v3 v4 = some (nI 0) ∧ fX8_reckon n sz st pl bl (nI s) v2 v3 v4 (nI w) = fX8_reckon_72 n sz st pl bl (nI s) v2 v3 v4 (nI w) (nI 0)) := by
  have hp := pu_hasPlace n
  have k14 : ¬ -nI 14 = nI 0 := by decide
  have k15 : ¬ -nI 15 = nI 0 := by decide
  rcases pu_find n hs h (nI 2) v3 with ⟨r, r0, f7, f8⟩ | ⟨q, z, j, b1, b2, b3, b4, b5, b6, b7, b8, b9, b10, f7, f8⟩
  · left
    refine ⟨r, r0, ?_, ?_⟩
    · unfold fX5_findParts
      rw [show fX5_findPlace n so si 2 v3 = some r from f7, Option.bind_some, if_neg (show ¬ r = 0 from r0)]
    · rw [rk_open n hs hw sz st pl bl v2 v3 v4 f8, if_neg r0, r53_ne n sz st pl bl _ _ _ _ _ r0]
  · have eq : 2 = q := (nI_eq (by omega) (by omega)).mp b8
    subst eq
    subst b9
    subst b4 b6
    have op := rk_open n hs hw sz st pl bl v2 (nI j) v4 f8
    rw [if_pos rfl] at op
    rcases inG_cas v4 (N := z) (by omega) with k1 | ⟨k, hk, rfl, k1⟩
    · have k2 := (pu_np n hs b2 b7 b5 v4).1 k1
      left
      refine ⟨-nI 14, k14, ?_, ?_⟩
      · unfold fX5_findParts fX5_findParts_32
        simp (disch := omega) only [Nat.zero_add, qa, qb, qbb, qc, qd, qe, qf, qg, Option.bind_some, reduceIte, or_false, false_or, or_self, or_true, true_or, and_true, true_and, and_false, false_and, not_true_eq_false, not_false_eq_true, f7, hp, k1]
      · rw [op, k2, Option.bind_some, r53_ne n sz st pl bl _ _ _ _ _ k14]
    · have k2 := (pu_np n hs b2 b7 b5 (nI k)).2 k rfl hk
      rw [k2, Option.bind_some] at op
      rcases inG_cas v2 (N := z) (by omega) with o1 | ⟨i, hi, rfl, o1⟩
      · have o2 := (pu_np n hs b2 b7 b5 v2).1 o1
        left
        refine ⟨-nI 14, k14, ?_, ?_⟩
        · unfold fX5_findParts fX5_findParts_32
          simp (disch := omega) only [Nat.zero_add, qa, qb, qbb, qc, qd, qe, qf, qg, Option.bind_some, reduceIte, or_false, false_or, or_self, or_true, true_or, and_true, true_and, and_false, false_and, not_true_eq_false, not_false_eq_true, f7, hp, k1, o1]
        · rw [op, r53_0 n sz st pl bl _ _ _ _ _ o2, r72_ne n sz st pl bl _ _ _ _ _ k14]
      · have o2 := (pu_np n hs b2 b7 b5 (nI i)).2 i rfl hi
        rw [r53_0 n sz st pl bl _ _ _ _ _ o2] at op
        obtain ⟨d1, d2, d3⟩ := b10 j (by omega)
        obtain ⟨c1, c2, c3⟩ := b10 k (by omega)
        rcases pu_isNo n (show j < 10 by omega) d2 (d3 rfl) with ⟨e1, e2⟩ | ⟨a1, y1, e1, e2, e3, e4, e5, e6, e7⟩
        · left
          refine ⟨-nI 15, k15, ?_, ?_⟩
          · unfold fX5_findParts fX5_findParts_51 fX5_findParts_57
            simp (disch := omega) only [Nat.zero_add, qa, qb, qbb, qc, qd, qe, qf, qg, Option.bind_some, reduceIte, or_false, false_or, or_self, or_true, true_or, and_true, true_and, and_false, false_and, not_true_eq_false, not_false_eq_true, f7, hp, k1, o1, e2]
          · have l0 : (nI 0).toInt64 = lN 0 := nI_l (by decide)
            rw [op]
            unfold fX8_reckon_72 fX8_reckon_152
            simp (disch := omega) only [Nat.zero_add, qa, qb, qbb, qc, qd, qe, qf, qg, Option.bind_some, reduceIte, or_false, false_or, or_self, or_true, true_or, and_true, true_and, and_false, false_and, not_true_eq_false, not_false_eq_true, e1, l0, cmpL0]
        · rcases pu_isNo n (show k < 10 by omega) c2 (c3 rfl) with ⟨t1, t2⟩ | ⟨a2, y2, t1, t2, t3, t4, t5, t6, t7⟩
          · left
            refine ⟨-nI 15, k15, ?_, ?_⟩
            · unfold fX5_findParts fX5_findParts_51 fX5_findParts_57
              simp (disch := omega) only [Nat.zero_add, qa, qb, qbb, qc, qd, qe, qf, qg, Option.bind_some, reduceIte, or_false, false_or, or_self, or_true, true_or, and_true, true_and, and_false, false_and, not_true_eq_false, not_false_eq_true, f7, hp, k1, o1, e7, t2]
            · have l0 : (nI 0).toInt64 = lN 0 := nI_l (by decide)
              have l1 : (nI y1).toInt64 = lN y1 := nI_l (by omega)
              have n1 := cmpLn (y := y1) (by omega) (by omega)
              rw [op]
              unfold fX8_reckon_72 fX8_reckon_152
              simp (disch := omega) only [Nat.zero_add, qa, qb, qbb, qc, qd, qe, qf, qg, Option.bind_some, reduceIte, or_false, false_or, or_self, or_true, true_or, and_true, true_and, and_false, false_and, not_true_eq_false, not_false_eq_true, e3, t1, l0, l1, n1, cmpL0]
          · right
            refine ⟨z, i, j, k, a1, y1, a2, y2, b2, hi, b3, hk, rfl, rfl, rfl, rfl, b5, rfl, b7, b10, e1, e2, e3, e4, e5, e6, t1, t2, t3, t4, t5, t6, ?_, op⟩
            unfold fX5_findParts fX5_findParts_57
            simp (disch := omega) only [Nat.zero_add, qa, qb, qbb, qc, qd, qe, qf, qg, Option.bind_some, reduceIte, or_false, false_or, or_self, or_true, true_or, and_true, true_and, and_false, false_and, not_true_eq_false, not_false_eq_true, f7, hp, k1, o1, e7, t7]
theorem ck_open (n : Nat) {s w : Nat} (hs : s < 4) (hw : w < 3) (so si : Nat → Int32) (x y : Int64) (va be : Nat → Nat → Int64) (v2 v3 v4 : Int32) {r : Int32} (h : fX5_findParts n (so s) (si s) (be s) v2 v3 v4 = some r) :
    (¬ r = nI 0 → fX7_reckon n so si x y va be (nI s) v2 v3 v4 (nI w) = some (r, x, y, va, be)) ∧
    ∀ p q, r = nI 0 → fX7_setReckoned n (va s) (be s) x y v3 v4 (nI w) = some (p, q) → (fX7_isPart n p q = some (nI 0) → fX7_reckon n so si x y va be (nI s) v2 v3 v4 (nI w) = some (-nI 4, p, q, va, be)) ∧
      ∀ i, i < 10 → v2 = nI i → fX7_isPart n p q = some (nI 1) → fX7_reckon n so si x y va be (nI s) v2 v3 v4 (nI w) = some (nI 1, p, q, va_up va s (vp_updL (va s) i p), va_up be s (vp_updL (be s) i q)) := by
  have c1 := nI_inL (c := s) (N := 4) hs (by decide)
  have k1 : (nI s).toNatClampNeg = s := nI_clamp (by omega)
  have w1 : ¬ nI w < 0 := nI_pos (by omega)
  have w2 : nI w ≤ 2 := nI_le (b := 2) (by omega) (by decide)
  refine ⟨fun r0 => ?_, fun p q r0 hp => ⟨fun hi => ?_, fun i hi hv hi1 => ?_⟩⟩
  · unfold fX7_reckon
    rw [pu_isSlate7, Option.bind_some, inG_1 hs (by omega), if_neg (show ¬ (1 : Int32) = 0 by decide), if_neg w1, if_pos w2, k1, if_neg c1, h, Option.bind_some, if_neg (show ¬ r = 0 from r0)]
  · subst r0
    unfold fX7_reckon
    rw [pu_isSlate7, Option.bind_some, inG_1 hs (by omega), if_neg (show ¬ (1 : Int32) = 0 by decide), if_neg w1, if_pos w2, k1, if_neg c1, h, Option.bind_some, if_pos nI_0, hp, Option.bind_some]
    dsimp only
    rw [hi, Option.bind_some, if_pos nI_0]
    rfl
  · subst r0
    subst hv
    have c2 := nI_inL (c := i) (N := 10) hi (by decide)
    have k2 : (nI i).toNatClampNeg = i := nI_clamp (by omega)
    unfold fX7_reckon
    rw [pu_isSlate7, Option.bind_some, inG_1 hs (by omega), if_neg (show ¬ (1 : Int32) = 0 by decide), if_neg w1, if_pos w2, k1, if_neg c1, h, Option.bind_some, if_pos nI_0, hp, Option.bind_some]
    dsimp only
    rw [hi1, Option.bind_some, if_neg (show ¬ nI 1 = (0 : Int32) by decide)]
    unfold fX5_setPart
    rw [k2, if_neg c2, if_neg c2, Option.bind_some]
    rfl
/-- the call reckon -/
theorem pu_reckon {n : Nat} (hn : 400 ≤ n) {so si : Nat → Int32} {va be : Nat → Nat → Int64} {sz st : Nat → Int32} {pl : Nat → Int64} {bl : Nat → Int32} (h : relT so si va be sz st pl bl) (x y : Int64) (v1 v2 v3 v4 v5 : Int32) :
    ∃ (r : Int32) (x' y' : Int64) (va' be' : Nat → Nat → Int64) (pl' : Nat → Int64) (bl' : Nat → Int32), fX7_reckon n so si x y va be v1 v2 v3 v4 v5 = some (r, x', y', va', be') ∧ fX8_reckon n sz st pl bl v1 v2 v3 v4 v5 = some (r, pl', bl') ∧ relT so si va' be' sz st pl' bl' := by
  have i4 := pu_isSlate7 n
  have j4 := pu_isSlate8 n
  rcases inG_cas v1 (N := 4) (by omega) with g | ⟨s, hs, rfl, g⟩
  · refine ⟨-nI 2, x, y, va, be, pl, bl, ?_, ?_, h⟩
    · unfold fX7_reckon
      rw [i4, Option.bind_some, if_pos (show inG v1 4 = 0 from g)]
      rfl
    · unfold fX8_reckon
      rw [j4, Option.bind_some, if_pos (show inG v1 4 = 0 from g)]
      rfl
  · rcases q_cas v5 (a := 0) (N := 3) (by omega) (by omega) with ⟨w, -, hw, rfl⟩ | g1 | ⟨g1, -, -, g2, g3⟩
    · rcases pu_rkpre n hs hw (h s hs) v2 v3 v4 with ⟨r, r0, f7, f8⟩ | ⟨z, i, j, k, a1, y1, a2, y2, b2, hi, hj, hk, rfl, rfl, rfl, b4, b5, b6, b7, b10, e1, e2, e3, e4, e5, e6, t1, t2, t3, t4, t5, t6, f7, f8⟩
      · exact ⟨r, x, y, va, be, pl, bl, (ck_open n hs hw so si x y va be v2 v3 v4 f7).1 r0, f8, h⟩
      · obtain ⟨A, hA, hV⟩ := rkV_abs (w := w) e1 t1 e2 t2 e5 t5
        have m1 : y1 * y2 ≤ 1000000 * 1000000 := Nat.mul_le_mul e5 t5
        have m2 : 1 * 1 ≤ y1 * y2 := Nat.mul_le_mul e4 t4
        have S := pu_setReckoned n (w := w) (show j < 10 by omega) (show k < 10 by omega) hw (b10 j (by omega)).1 (b10 k (by omega)).1 e6 t6 x y
        have Q := pu_rk72 n (i := i) hs (show j < 10 by omega) (show k < 10 by omega) hw (sz := sz) (st := st) (pl := pl) ⟨e4, e5⟩ ⟨t4, t5⟩ e3 t3
        obtain ⟨p1, p2, p3, p4⟩ := pu_rk199 hn hs (show i < 10 by omega) sz st pl bl (v9 := lN y1) (v13 := lN y2) (a := A) (b := y1 * y2) hA (by omega) (by omega) hV (lN_mul y1 y2) x y
        generalize rkV w (pl (10 * s + j)) (pl (10 * s + k)) y1 y2 = V at *
        rw [p1] at S
        obtain ⟨-, ck⟩ := ck_open n hs hw so si x y va be (nI i) (nI j) (nI k) f7
        obtain ⟨ck0, ck1⟩ := ck _ _ rfl S
        rcases p4 with ⟨i6, r8⟩ | ⟨i6, ok, le, r8⟩
        · exact ⟨-nI 4, V / lN (Nat.gcd A (y1 * y2)), lN (y1 * y2 / Nat.gcd A (y1 * y2)), va, be, pl, bl, ck0 i6, f8.trans (Q.trans r8), h⟩
        · refine ⟨nI 1, V / lN (Nat.gcd A (y1 * y2)), lN (y1 * y2 / Nat.gcd A (y1 * y2)), _, _, _, _, ck1 i (by omega) rfl i6, f8.trans (Q.trans r8), ?_⟩
          have := relT_up h (s := s) (so' := so s) (si' := si s) (va' := vp_updL (va s) i (V / lN (Nat.gcd A (y1 * y2)))) (be' := vp_updL (be s) i (lN (y1 * y2 / Nat.gcd A (y1 * y2)))) (sz' := sz s) (st' := st s) (pl' := vp_updL pl (10 * s + i) (V / lN (Nat.gcd A (y1 * y2)))) (bl' := upd bl (10 * s + i) (nI (y1 * y2 / Nat.gcd A (y1 * y2)))) (by rw [b4, b5, b6, b7]; exact relT1_set (i := i) (by omega) b2 (by omega) b10 (nI_l (show y1 * y2 / Nat.gcd A (y1 * y2) < 2 ^ 31 by omega)).symm (fun _ => ok)) (fun j hj => ⟨ql.2 _ _ _ _ (by omega), qf.2 _ _ _ _ (by omega)⟩)
          rw [up_self, up_self, upd_self rfl, upd_self rfl] at this
          exact this
    · refine ⟨-nI 3, x, y, va, be, pl, bl, ?_, ?_, h⟩
      · unfold fX7_reckon fX7_reckon_21
        rw [i4, Option.bind_some, if_neg (show ¬ inG (nI s) 4 = 0 by rw [g]; decide), if_pos (show v5 < 0 from g1)]
        rfl
      · have := q_in n v5 (a := 0) (b := 2) (by decide) (by decide)
        rw [if_pos (Or.inl g1)] at this
        unfold fX8_reckon
        rw [j4, Option.bind_some, if_neg (show ¬ inG (nI s) 4 = 0 by rw [g]; decide), show fX8_in n v5.toInt64 0 2 = some (nI 0) from this, Option.bind_some, if_pos nI_0]
        rfl
    · refine ⟨-nI 3, x, y, va, be, pl, bl, ?_, ?_, h⟩
      · unfold fX7_reckon fX7_reckon_21
        rw [i4, Option.bind_some, if_neg (show ¬ inG (nI s) 4 = 0 by rw [g]; decide), if_neg (show ¬ v5 < 0 from g1), if_neg (show ¬ v5 ≤ 2 from g2)]
        rfl
      · have := q_in n v5 (a := 0) (b := 2) (by decide) (by decide)
        rw [if_pos (Or.inr g3)] at this
        unfold fX8_reckon
        rw [j4, Option.bind_some, if_neg (show ¬ inG (nI s) 4 = 0 by rw [g]; decide), show fX8_in n v5.toInt64 0 2 = some (nI 0) from this, Option.bind_some, if_pos nI_0]
        rfl
