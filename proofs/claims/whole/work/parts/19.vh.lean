theorem cmpL0 : lg_cmp (lN 0) (lN 0) = nI 0 := cmp_0
theorem cmpLn {y : Nat} (h : y < 2 ^ 63) (h0 : y ≠ 0) : ¬ lg_cmp (lN y) (lN 0) = nI 0 := cmp_ne0 h h0
theorem i32_3 (v : Int64) : (v + 3000000).toInt32 = v.toInt32 + nI 3000000 := Int64.toInt32_add v 3000000
theorem i32_2 (v : Int64) : (v + 2000000).toInt32 = v.toInt32 + nI 2000000 := Int64.toInt32_add v 2000000
/-- the call show -/
theorem pu_show {n : Nat} {so si : Nat → Int32} {va be : Nat → Nat → Int64} {sz st : Nat → Int32} {pl : Nat → Int64} {bl : Nat → Int32} (h : relT so si va be sz st pl bl) (v1 v2 v3 v4 : Int32) :
    ∃ r : Int32, fX7_show n so si be va v1 v2 v3 v4 = some r ∧ fX8_show n sz st pl bl v1 v2 v3 v4 = some r := by
  have i4 := pu_isSlate7 n
  have j4 := pu_isSlate8 n
  have i3 := pu_isSort7 n
  rcases inG_cas v1 (N := 4) (by omega) with g | ⟨s, hs, rfl, g⟩
  · refine ⟨-nI 2, ?_, ?_⟩
    · unfold fX7_show
      rw [i4, Option.bind_some, if_pos (show inG v1 4 = 0 from g)]
      rfl
    · unfold fX8_show
      rw [j4, Option.bind_some, if_pos (show inG v1 4 = 0 from g)]
      rfl
  · rcases q_cas v2 (a := 0) (N := 3) (by omega) (by omega) with ⟨q, -, hq, rfl⟩ | g1 | ⟨g1, -, g4, g2, g3⟩
    · have g2 := inG_1 hq (by omega)
      rcases q_cas v4 (a := 0) (N := 2) (by omega) (by omega) with ⟨w, -, hw, rfl⟩ | k1 | ⟨k1, -, -, k2, k3⟩
      · rcases pu_find n hs (h s hs) (nI q) v3 with ⟨r, r0, f7, f8⟩ | ⟨q', z, i, b1, b2, b3, b4, b5, b6, b7, b8, b9, b10, f7, f8⟩
        · refine ⟨r, ?_, ?_⟩
          · unfold fX7_show
            simp (disch := omega) only [Nat.zero_add, qa, qb, qbb, qc, qd, qe, qf, qg, Option.bind_some, reduceIte, or_false, false_or, or_self, or_true, true_or, and_true, true_and, and_false, false_and, not_true_eq_false, not_false_eq_true, i4, g, i3, g2, f7, r0]
          · unfold fX8_show
            simp (disch := omega) only [Nat.zero_add, qa, qb, qbb, qc, qd, qe, qf, qg, Option.bind_some, reduceIte, or_false, false_or, or_self, or_true, true_or, and_true, true_and, and_false, false_and, not_true_eq_false, not_false_eq_true, j4, g, f8, r0]
        · have eq : q = q' := (nI_eq (by omega) (by omega)).mp b8
          subst eq
          subst b9
          rw [b4] at f7
          obtain ⟨c1, c2, c3⟩ := b10 i (by omega)
          by_cases q2 : q = 2
          · subst q2
            rcases c3 rfl with ⟨e1, e2⟩ | ⟨a, y, e1, e2, e3, e4, e5⟩
            · have e4 : be s i = lN 0 := by rw [c2, e2]; exact nI_l (by decide)
              refine ⟨-nI 15, ?_, ?_⟩
              · unfold fX7_show fX5_isNothingAt fX5_isNothingAt_23 fX5_isNothingAt_24
                simp (disch := omega) only [Nat.zero_add, qa, qb, qbb, qc, qd, qe, qf, qg, Option.bind_some, reduceIte, or_false, false_or, or_self, or_true, true_or, and_true, true_and, and_false, false_and, not_true_eq_false, not_false_eq_true, i4, g, i3, g2, b4, f7, e4, cmpL0]
              · unfold fX8_show fX8_show_140
                simp (disch := omega) only [Nat.zero_add, qa, qb, qbb, qc, qd, qe, qf, qg, Option.bind_some, reduceIte, or_false, false_or, or_self, or_true, true_or, and_true, true_and, and_false, false_and, not_true_eq_false, not_false_eq_true, j4, g, f8, e2]
            · have e6 : be s i = lN y := by rw [c2, e3]; exact nI_l (by omega)
              have e7 := cmpLn (y := y) (by omega) (by omega)
              by_cases w0 : w = 0
              · refine ⟨(pl (10 * s + i)).toInt32 + nI 3000000, ?_, ?_⟩
                · unfold fX7_show fX5_isNothingAt fX5_isNothingAt_23 fX5_isNothingAt_24 fX5_shown fX5_shown_31
                  simp (disch := omega) only [Nat.zero_add, qa, qb, qbb, qc, qd, qe, qf, qg, Option.bind_some, reduceIte, or_false, false_or, or_self, or_true, true_or, and_true, true_and, and_false, false_and, not_true_eq_false, not_false_eq_true, i4, g, i3, g2, b4, f7, e6, e7, c1, i32_3]
                · unfold fX8_show fX8_show_140
                  simp (disch := omega) only [Nat.zero_add, qa, qb, qbb, qc, qd, qe, qf, qg, Option.bind_some, reduceIte, or_false, false_or, or_self, or_true, true_or, and_true, true_and, and_false, false_and, not_true_eq_false, not_false_eq_true, j4, g, f8, e3]
              · refine ⟨nI y, ?_, ?_⟩
                · unfold fX7_show fX5_isNothingAt fX5_isNothingAt_23 fX5_isNothingAt_24 fX5_shown fX5_shown_31
                  simp (disch := omega) only [Nat.zero_add, qa, qb, qbb, qc, qd, qe, qf, qg, Option.bind_some, reduceIte, or_false, false_or, or_self, or_true, true_or, and_true, true_and, and_false, false_and, not_true_eq_false, not_false_eq_true, i4, g, i3, g2, b4, f7, e6, e7, lN_i]
                · unfold fX8_show fX8_show_140
                  simp (disch := omega) only [Nat.zero_add, qa, qb, qbb, qc, qd, qe, qf, qg, Option.bind_some, reduceIte, or_false, false_or, or_self, or_true, true_or, and_true, true_and, and_false, false_and, not_true_eq_false, not_false_eq_true, j4, g, f8, e3]
          · by_cases c : pl (10 * s + i) < 0
            · have c4 : ¬ nI 0 ≤ lg_cmp (pl (10 * s + i)) (lN 0) := fun q => by
                have := (lg_cmp_ge (pl (10 * s + i)) 0).mp q
                exact Int64.lt_irrefl (Int64.lt_of_lt_of_le c this)
              have c5 : ¬ lN 0 < pl (10 * s + i) := fun q => Int64.lt_irrefl (Int64.lt_trans q c)
              refine ⟨(-pl (10 * s + i) - -pl (10 * s + i) / 1000003 * 1000003).toInt32 + nI 2000000, ?_, ?_⟩
              · unfold fX7_show fX5_isNothingAt fX5_isNothingAt_23 fX5_isNothingAt_24 fX5_shown fX5_shown_48 fX5_shown_67
                simp (disch := omega) only [Nat.zero_add, qa, qb, qbb, qc, qd, qe, qf, qg, Option.bind_some, reduceIte, or_false, false_or, or_self, or_true, true_or, and_true, true_and, and_false, false_and, not_true_eq_false, not_false_eq_true, i4, g, i3, g2, b4, f7, c1, c4, c5]
              · unfold fX8_show fX8_show_98
                simp (disch := omega) only [Nat.zero_add, qa, qb, qbb, qc, qd, qe, qf, qg, Option.bind_some, reduceIte, or_false, false_or, or_self, or_true, true_or, and_true, true_and, and_false, false_and, not_true_eq_false, not_false_eq_true, j4, g, f8, c4, i32_2]
            · have c6 : 0 ≤ pl (10 * s + i) := Int64.not_lt.mp c
              have c4 : nI 0 ≤ lg_cmp (pl (10 * s + i)) (lN 0) := (lg_cmp_ge (pl (10 * s + i)) 0).mpr c6
              have c5 : (if lN 0 < pl (10 * s + i) then pl (10 * s + i) else -pl (10 * s + i)) = pl (10 * s + i) := by
                by_cases d : lN 0 < pl (10 * s + i)
                · rw [if_pos d]
                · have : pl (10 * s + i) = 0 := Int64.le_antisymm (Int64.not_lt.mp d) c6
                  rw [if_neg d, this]
                  rfl
              refine ⟨(pl (10 * s + i) - pl (10 * s + i) / 1000003 * 1000003).toInt32, ?_, ?_⟩
              · unfold fX7_show fX5_isNothingAt fX5_isNothingAt_23 fX5_isNothingAt_24 fX5_shown fX5_shown_48 fX5_shown_67
                simp (disch := omega) only [Nat.zero_add, qa, qb, qbb, qc, qd, qe, qf, qg, Option.bind_some, reduceIte, or_false, false_or, or_self, or_true, true_or, and_true, true_and, and_false, false_and, not_true_eq_false, not_false_eq_true, i4, g, i3, g2, b4, f7, c1, c4, c5]
              · unfold fX8_show fX8_show_98
                simp (disch := omega) only [Nat.zero_add, qa, qb, qbb, qc, qd, qe, qf, qg, Option.bind_some, reduceIte, or_false, false_or, or_self, or_true, true_or, and_true, true_and, and_false, false_and, not_true_eq_false, not_false_eq_true, j4, g, f8, c4]
      · refine ⟨-nI 3, ?_, ?_⟩
        · unfold fX7_show fX7_show_28
          simp (disch := omega) only [Nat.zero_add, qa, qb, qbb, qc, qd, qe, qf, qg, Option.bind_some, reduceIte, or_false, false_or, or_self, or_true, true_or, and_true, true_and, and_false, false_and, not_true_eq_false, not_false_eq_true, i4, g, i3, g2, k1]
        · unfold fX8_show fX8_show_33
          simp (disch := omega) only [Nat.zero_add, qa, qb, qbb, qc, qd, qe, qf, qg, Option.bind_some, reduceIte, or_false, false_or, or_self, or_true, true_or, and_true, true_and, and_false, false_and, not_true_eq_false, not_false_eq_true, j4, g, k1]
      · refine ⟨-nI 3, ?_, ?_⟩
        · unfold fX7_show fX7_show_28
          simp (disch := omega) only [Nat.zero_add, qa, qb, qbb, qc, qd, qe, qf, qg, Option.bind_some, reduceIte, or_false, false_or, or_self, or_true, true_or, and_true, true_and, and_false, false_and, not_true_eq_false, not_false_eq_true, i4, g, i3, g2, k1, k2]
        · unfold fX8_show fX8_show_33
          simp (disch := omega) only [Nat.zero_add, qa, qb, qbb, qc, qd, qe, qf, qg, Option.bind_some, reduceIte, or_false, false_or, or_self, or_true, true_or, and_true, true_and, and_false, false_and, not_true_eq_false, not_false_eq_true, j4, g, k1, k3]
    · have g2 : inG v2 3 = nI 0 := if_pos (Or.inl g1)
      refine ⟨-nI 3, ?_, ?_⟩
      · unfold fX7_show fX7_show_28
        simp (disch := omega) only [Nat.zero_add, qa, qb, qbb, qc, qd, qe, qf, qg, Option.bind_some, reduceIte, or_false, false_or, or_self, or_true, true_or, and_true, true_and, and_false, false_and, not_true_eq_false, not_false_eq_true, i4, g, i3, g2]
      · unfold fX8_show fX8_show_33
        simp (disch := omega) only [Nat.zero_add, qa, qb, qbb, qc, qd, qe, qf, qg, Option.bind_some, reduceIte, or_false, false_or, or_self, or_true, true_or, and_true, true_and, and_false, false_and, not_true_eq_false, not_false_eq_true, j4, g, g1]
    · have g5 : inG v2 3 = nI 0 := if_pos (Or.inr g4)
      refine ⟨-nI 3, ?_, ?_⟩
      · unfold fX7_show fX7_show_28
        simp (disch := omega) only [Nat.zero_add, qa, qb, qbb, qc, qd, qe, qf, qg, Option.bind_some, reduceIte, or_false, false_or, or_self, or_true, true_or, and_true, true_and, and_false, false_and, not_true_eq_false, not_false_eq_true, i4, g, i3, g5]
      · unfold fX8_show fX8_show_33
        simp (disch := omega) only [Nat.zero_add, qa, qb, qbb, qc, qd, qe, qf, qg, Option.bind_some, reduceIte, or_false, false_or, or_self, or_true, true_or, and_true, true_and, and_false, false_and, not_true_eq_false, not_false_eq_true, j4, g, g1, g3]
/-! copy -/
theorem pu_c143 (n : Nat) {g j m : Nat} (hg : g < 4) (hj : j + m ≤ 10) (sz st : Nat → Int32) (mo : Nat → Int64) (mb : Nat → Int32) : ∀ (t x k : Nat) (pl : Nat → Int64) (bl : Nat → Int32), x + t = m →
    ∃ pl' bl', fX8_copy_143 n sz st (k + t + 1) mo mb pl bl (nI g) (nI j) (nI m) (nI x) = some (nI m, mo, mb, pl', bl') ∧ (∀ y, x ≤ y → y < m → pl' (10 * g + j + y) = mo y ∧ bl' (10 * g + j + y) = mb y) ∧ ∀ w, w < 10 * g + j + x ∨ 10 * g + j + m ≤ w → pl' w = pl w ∧ bl' w = bl w := by
  intro t
  induction t with
  | zero =>
    intro x k pl bl hx
    refine ⟨pl, bl, ?_, fun y h1 h2 => absurd h2 (by omega), fun _ _ => ⟨rfl, rfl⟩⟩
    unfold fX8_copy_143
    simp (disch := omega) only [Nat.zero_add, qa, qb, qbb, qc, qd, qe, qf, qg, Option.bind_some, reduceIte, or_false, false_or, or_self, or_true, true_or, and_true, true_and, and_false, false_and, not_true_eq_false, not_false_eq_true]
  | succ t ih =>
    intro x k pl bl hx
    obtain ⟨pl', bl', E, h1, h2⟩ := ih (x + 1) k (vp_updL pl (10 * g + j + x) (mo x)) (upd bl (10 * g + j + x) (mb x)) (by omega)
    refine ⟨pl', bl', ?_, fun y hy hy2 => ?_, fun w hw => ?_⟩
    · have e : k + (t + 1) + 1 = (k + t + 1) + 1 := by omega
      rw [e]
      unfold fX8_copy_143
      simp (disch := omega) only [Nat.zero_add, qa, qb, qbb, qc, qd, qe, qf, qg, Option.bind_some, reduceIte, or_false, false_or, or_self, or_true, true_or, and_true, true_and, and_false, false_and, not_true_eq_false, not_false_eq_true]
      exact E
    · by_cases e : y = x
      · obtain ⟨c1, c2⟩ := h2 (10 * g + j + y) (by omega)
        rw [c1, c2, ql.1 _ _ _ _ (by omega), qf.1 _ _ _ _ (by omega), e]
        exact ⟨rfl, rfl⟩
      · exact h1 y (by omega) hy2
    · obtain ⟨c1, c2⟩ := h2 w (by omega)
      rw [c1, c2, ql.2 _ _ _ _ (by omega), qf.2 _ _ _ _ (by omega)]
      exact ⟨rfl, rfl⟩
theorem pu_c85 (n : Nat) {f i g j m : Nat} (hf : f < 4) (hi : i + m ≤ 10) (sz st : Nat → Int32) (pl : Nat → Int64) (bl : Nat → Int32) : ∀ (t x k : Nat) (mo : Nat → Int64) (mb : Nat → Int32), x + t = m →
    ∃ mo' mb', fX8_copy_85 n sz st (k + t + 1) mo mb pl bl (nI f) (nI i) (nI g) (nI j) (nI m) (nI x) = fX8_copy_143 n sz st n mo' mb' pl bl (nI g) (nI j) (nI m) (nI 0) ∧ (∀ y, x ≤ y → y < m → mo' y = pl (10 * f + i + y) ∧ mb' y = bl (10 * f + i + y)) ∧ ∀ w, w < x → mo' w = mo w ∧ mb' w = mb w := by
  intro t
  induction t with
  | zero =>
    intro x k mo mb hx
    refine ⟨mo, mb, ?_, fun y h1 h2 => absurd h2 (by omega), fun _ _ => ⟨rfl, rfl⟩⟩
    unfold fX8_copy_85
    simp (disch := omega) only [Nat.zero_add, qa, qb, qbb, qc, qd, qe, qf, qg, Option.bind_some, reduceIte, or_false, false_or, or_self, or_true, true_or, and_true, true_and, and_false, false_and, not_true_eq_false, not_false_eq_true]
  | succ t ih =>
    intro x k mo mb hx
    obtain ⟨mo', mb', E, h1, h2⟩ := ih (x + 1) k (vp_updL mo x (pl (10 * f + i + x))) (upd mb x (bl (10 * f + i + x))) (by omega)
    refine ⟨mo', mb', ?_, fun y hy hy2 => ?_, fun w hw => ?_⟩
    · have e : k + (t + 1) + 1 = (k + t + 1) + 1 := by omega
      rw [e]
      unfold fX8_copy_85
      simp (disch := omega) only [Nat.zero_add, qa, qb, qbb, qc, qd, qe, qf, qg, Option.bind_some, reduceIte, or_false, false_or, or_self, or_true, true_or, and_true, true_and, and_false, false_and, not_true_eq_false, not_false_eq_true]
      exact E
    · by_cases e : y = x
      · obtain ⟨c1, c2⟩ := h2 y (by omega)
        rw [c1, c2, ql.1 _ _ _ _ (by omega), qf.1 _ _ _ _ (by omega), e]
        exact ⟨rfl, rfl⟩
      · exact h1 y (by omega) hy2
    · obtain ⟨c1, c2⟩ := h2 w (by omega)
      rw [c1, c2, ql.2 _ _ _ _ (by omega), qf.2 _ _ _ _ (by omega)]
      exact ⟨rfl, rfl⟩
/-- a row of places -/
theorem pu_row (n : Nat) {s z : Nat} (hs : s < 4) (hz : z ≤ 10) {sz : Nat → Int32} (h : sz s = nI z) (v2 v3 : Int32) :
    (fX5_hasRow n (nI z) v2 v3 = some (nI 0) ∧ fX8_isSpan n sz (nI s) v2 v3 = some (nI 0)) ∨ (∃ i m, v2 = nI i ∧ v3 = nI m ∧ i + m ≤ z ∧ fX5_hasRow n (nI z) v2 v3 = some (nI 1) ∧ fX8_isSpan n sz (nI s) v2 v3 = some (nI 1)) := by
  by_cases c1 : v2 < nI 0
  · left
    constructor
    · unfold fX5_hasRow fX5_hasRow_26 fX5_hasRow_27
      simp (disch := omega) only [Nat.zero_add, qa, qb, qbb, qc, qd, qe, qf, qg, Option.bind_some, reduceIte, or_false, false_or, or_self, or_true, true_or, and_true, true_and, and_false, false_and, not_true_eq_false, not_false_eq_true, c1]
    · unfold fX8_isSpan fX8_isSpan_28 fX8_isSpan_29
      simp (disch := omega) only [Nat.zero_add, qa, qb, qbb, qc, qd, qe, qf, qg, Option.bind_some, reduceIte, or_false, false_or, or_self, or_true, true_or, and_true, true_and, and_false, false_and, not_true_eq_false, not_false_eq_true, c1]
  · by_cases c2 : v3 < nI 0
    · left
      constructor
      · unfold fX5_hasRow fX5_hasRow_26 fX5_hasRow_27
        simp (disch := omega) only [Nat.zero_add, qa, qb, qbb, qc, qd, qe, qf, qg, Option.bind_some, reduceIte, or_false, false_or, or_self, or_true, true_or, and_true, true_and, and_false, false_and, not_true_eq_false, not_false_eq_true, c1, c2]
      · unfold fX8_isSpan fX8_isSpan_28 fX8_isSpan_29
        simp (disch := omega) only [Nat.zero_add, qa, qb, qbb, qc, qd, qe, qf, qg, Option.bind_some, reduceIte, or_false, false_or, or_self, or_true, true_or, and_true, true_and, and_false, false_and, not_true_eq_false, not_false_eq_true, c1, c2]
    · obtain ⟨i, hi, rfl⟩ := nI_of (x := v2) c1
      obtain ⟨m, hm, rfl⟩ := nI_of (x := v3) c2
      have l1 : (nI i).toInt64 = lN i := nI_l hi
      have l2 : (nI m).toInt64 = lN m := nI_l hm
      have l3 : (nI z).toInt64 = lN z := nI_l (by omega)
      have l4 := lN_add i m
      by_cases c3 : z < i + m
      · have c4 : nI 0 < lg_cmp (lN (i + m)) (lN z) := (lg_cmp_gt _ _).mpr ((pk_lLT (by omega) (by omega)).mpr c3)
        left
        constructor
        · unfold fX5_hasRow fX5_hasRow_26 fX5_hasRow_27
          simp (disch := omega) only [Nat.zero_add, qa, qb, qbb, qc, qd, qe, qf, qg, Option.bind_some, reduceIte, or_false, false_or, or_self, or_true, true_or, and_true, true_and, and_false, false_and, not_true_eq_false, not_false_eq_true, l1, l2, l3, l4, c4]
        · unfold fX8_isSpan fX8_isSpan_28 fX8_isSpan_29
          simp (disch := omega) only [Nat.zero_add, qa, qb, qbb, qc, qd, qe, qf, qg, Option.bind_some, reduceIte, or_false, false_or, or_self, or_true, true_or, and_true, true_and, and_false, false_and, not_true_eq_false, not_false_eq_true, h, l1, l2, l3, l4, c4]
      · have c4 : ¬ nI 0 < lg_cmp (lN (i + m)) (lN z) := fun q => c3 ((pk_lLT (by omega) (by omega)).mp ((lg_cmp_gt _ _).mp q))
        right
        refine ⟨i, m, rfl, rfl, by omega, ?_, ?_⟩
        · unfold fX5_hasRow fX5_hasRow_26 fX5_hasRow_27
          simp (disch := omega) only [Nat.zero_add, qa, qb, qbb, qc, qd, qe, qf, qg, Option.bind_some, reduceIte, or_false, false_or, or_self, or_true, true_or, and_true, true_and, and_false, false_and, not_true_eq_false, not_false_eq_true, l1, l2, l3, l4, c4]
        · unfold fX8_isSpan fX8_isSpan_28 fX8_isSpan_29
          simp (disch := omega) only [Nat.zero_add, qa, qb, qbb, qc, qd, qe, qf, qg, Option.bind_some, reduceIte, or_false, false_or, or_self, or_true, true_or, and_true, true_and, and_false, false_and, not_true_eq_false, not_false_eq_true, h, l1, l2, l3, l4, c4]
/-- the call copy -/
theorem pu_copy {n : Nat} (hn : 400 ≤ n) {so si : Nat → Int32} {va be : Nat → Nat → Int64} {sz st : Nat → Int32} {pl : Nat → Int64} {bl : Nat → Int32} (h : relT so si va be sz st pl bl) (mo : Nat → Int64) (mb : Nat → Int32) (v1 v2 v3 v4 v5 : Int32) :
    ∃ (r : Int32) (va' be' : Nat → Nat → Int64) (mo' : Nat → Int64) (mb' : Nat → Int32) (pl' : Nat → Int64) (bl' : Nat → Int32), fX7_copy n so si va be v1 v2 v3 v4 v5 = some (r, va', be') ∧ fX8_copy n sz st mo mb pl bl v1 v2 v3 v4 v5 = some (r, mo', mb', pl', bl') ∧ relT so si va' be' sz st pl' bl' := by
  have i4 := pu_isSlate7 n
  have j4 := pu_isSlate8 n
  obtain ⟨m1, m2⟩ := pu_missing n
  have a3 : ¬ nI 0 ≤ onI 0 := by decide
  have a4 : onI 0 < nI 0 := by decide
  rcases inG_cas v1 (N := 4) (by omega) with g | ⟨s, hs, rfl, g⟩
  · refine ⟨-nI 2, va, be, mo, mb, pl, bl, ?_, ?_, h⟩
    · unfold fX7_copy fX7_copy_14
      rw [i4, Option.bind_some, if_pos (show inG v1 4 = 0 from g)]
      rfl
    · unfold fX8_copy fX8_copy_14
      rw [j4, Option.bind_some, if_pos (show inG v1 4 = 0 from g)]
      rfl
  · rcases inG_cas v3 (N := 4) (by omega) with g' | ⟨d, hd, rfl, g'⟩
    · refine ⟨-nI 2, va, be, mo, mb, pl, bl, ?_, ?_, h⟩
      · unfold fX7_copy fX7_copy_14
        simp (disch := omega) only [Nat.zero_add, qa, qb, qbb, qc, qd, qe, qf, qg, Option.bind_some, reduceIte, or_false, false_or, or_self, or_true, true_or, and_true, true_and, and_false, false_and, not_true_eq_false, not_false_eq_true, i4, g, g']
      · unfold fX8_copy fX8_copy_14
        simp (disch := omega) only [Nat.zero_add, qa, qb, qbb, qc, qd, qe, qf, qg, Option.bind_some, reduceIte, or_false, false_or, or_self, or_true, true_or, and_true, true_and, and_false, false_and, not_true_eq_false, not_false_eq_true, j4, g, g']
    · rcases h s hs with ⟨a1, a2⟩ | ⟨q, z, b1, b2, b3, b4, b5, b6, b7⟩
      · refine ⟨-nI 11, va, be, mo, mb, pl, bl, ?_, ?_, h⟩
        · unfold fX7_copy fX7_copy_49
          simp (disch := omega) only [Nat.zero_add, qa, qb, qbb, qc, qd, qe, qf, qg, Option.bind_some, reduceIte, or_false, false_or, or_self, or_true, true_or, and_true, true_and, and_false, false_and, not_true_eq_false, not_false_eq_true, i4, g, g', a1, m1]
        · unfold fX8_copy fX8_copy_35
          simp (disch := omega) only [Nat.zero_add, qa, qb, qbb, qc, qd, qe, qf, qg, Option.bind_some, reduceIte, or_false, false_or, or_self, or_true, true_or, and_true, true_and, and_false, false_and, not_true_eq_false, not_false_eq_true, j4, g, g', a2, a4]
      · have m3 := m2 q b1
        rcases h d hd with ⟨a1, a2⟩ | ⟨q', z', c1, c2, c3, c4, c5, c6, c7⟩
        · refine ⟨-nI 11, va, be, mo, mb, pl, bl, ?_, ?_, h⟩
          · unfold fX7_copy fX7_copy_49
            simp (disch := omega) only [Nat.zero_add, qa, qb, qbb, qc, qd, qe, qf, qg, Option.bind_some, reduceIte, or_false, false_or, or_self, or_true, true_or, and_true, true_and, and_false, false_and, not_true_eq_false, not_false_eq_true, i4, g, g', b3, m3, a1, m1]
          · unfold fX8_copy fX8_copy_35
            simp (disch := omega) only [Nat.zero_add, qa, qb, qbb, qc, qd, qe, qf, qg, Option.bind_some, reduceIte, or_false, false_or, or_self, or_true, true_or, and_true, true_and, and_false, false_and, not_true_eq_false, not_false_eq_true, j4, g, g', b6, a2, a3]
        · have m4 := m2 q' c1
          by_cases qq : q = q'
          · subst qq
            rcases pu_row n hs b2 b6 v2 v5 with ⟨r1, r2⟩ | ⟨i, m, rfl, rfl, him, r1, r2⟩
            · refine ⟨-nI 14, va, be, mo, mb, pl, bl, ?_, ?_, h⟩
              · unfold fX7_copy fX7_copy_91
                simp (disch := omega) only [Nat.zero_add, qa, qb, qbb, qc, qd, qe, qf, qg, Option.bind_some, reduceIte, or_false, false_or, or_self, or_true, true_or, and_true, true_and, and_false, false_and, not_true_eq_false, not_false_eq_true, i4, g, g', b3, m3, c3, b5, r1]
              · unfold fX8_copy fX8_copy_79
                simp (disch := omega) only [Nat.zero_add, qa, qb, qbb, qc, qd, qe, qf, qg, Option.bind_some, reduceIte, or_false, false_or, or_self, or_true, true_or, and_true, true_and, and_false, false_and, not_true_eq_false, not_false_eq_true, j4, g, g', b6, c6, b4, c4, r2]
            · rcases pu_row n hd c2 c6 v4 (nI m) with ⟨r3, r4⟩ | ⟨j, m', rfl, em, hjm, r3, r4⟩
              · refine ⟨-nI 14, va, be, mo, mb, pl, bl, ?_, ?_, h⟩
                · unfold fX7_copy fX7_copy_91
                  simp (disch := omega) only [Nat.zero_add, qa, qb, qbb, qc, qd, qe, qf, qg, Option.bind_some, reduceIte, or_false, false_or, or_self, or_true, true_or, and_true, true_and, and_false, false_and, not_true_eq_false, not_false_eq_true, i4, g, g', b3, m3, c3, b5, r1, c5, r3]
                · unfold fX8_copy fX8_copy_79
                  simp (disch := omega) only [Nat.zero_add, qa, qb, qbb, qc, qd, qe, qf, qg, Option.bind_some, reduceIte, or_false, false_or, or_self, or_true, true_or, and_true, true_and, and_false, false_and, not_true_eq_false, not_false_eq_true, j4, g, g', b6, c6, b4, c4, r2, r4]
              · have e0 : m = m' := by
                  have t1 := congrArg Int32.toInt em
                  rw [nI_toInt (by omega), nI_toInt (by omega)] at t1
                  omega
                subst e0
                obtain ⟨mo', mb', E1, h1, -⟩ := pu_c85 n (g := d) (j := j) (m := m) hs (show i + m ≤ 10 by omega) sz st pl bl m 0 (n - m - 1) mo mb (by omega)
                obtain ⟨pl', bl', E2, h2, h3⟩ := pu_c143 n (m := m) hd (show j + m ≤ 10 by omega) sz st mo' mb' m 0 (n - m - 1) pl bl (by omega)
                have en : n - m - 1 + m + 1 = n := by omega
                rw [en] at E1 E2
                have hT : relT so si (va_up va d (va_cpy (va s) (va d) i j m)) (va_up be d (va_cpy (be s) (be d) i j m)) sz st pl' bl' := by
                  have := relT_up h (s := d) (so' := so d) (si' := si d) (va' := va_cpy (va s) (va d) i j m) (be' := va_cpy (be s) (be d) i j m) (sz' := sz d) (st' := st d) (pl' := pl') (bl' := bl') ?_ (fun w hw => h3 w (by omega))
                  · rw [up_self, up_self, upd_self rfl, upd_self rfl] at this
                    exact this
                  · refine Or.inr ⟨q, z', c1, c2, c3, c4, c5, c6, fun w hw => ?_⟩
                    by_cases k : j ≤ w ∧ w < j + m
                    · obtain ⟨k1, k2⟩ := h2 (w - j) (by omega) (by omega)
                      obtain ⟨k3, k4⟩ := h1 (w - j) (by omega) (by omega)
                      have e1 : 10 * d + j + (w - j) = 10 * d + w := by omega
                      have e2 : 10 * s + i + (w - j) = 10 * s + (i + (w - j)) := by omega
                      rw [e1] at k1 k2
                      rw [e2] at k3 k4
                      rw [pk_cpy_in k.1 k.2, pk_cpy_in k.1 k.2, k1, k2, k3, k4]
                      exact b7 _ (by omega)
                    · obtain ⟨k1, k2⟩ := h3 (10 * d + w) (by omega)
                      rw [pk_cpy_out (by omega), pk_cpy_out (by omega), k1, k2]
                      exact c7 w hw
                refine ⟨nI m, va_up va d (va_cpy (va s) (va d) i j m), va_up be d (va_cpy (be s) (be d) i j m), mo', mb', pl', bl', ?_, ?_, hT⟩
                · have n1 : ¬ 10 < i + m := by omega
                  have n2 : ¬ 10 < j + m := by omega
                  by_cases sd : d = s
                  · subst sd
                    have zz : z = z' := (nI_eq (by omega) (by omega)).mp (b5.symm.trans c5)
                    subst zz
                    unfold fX7_copy fX5_copyTo_ap0this
                    simp (disch := omega) only [Nat.zero_add, qa, qb, qbb, qc, qd, qe, qf, qg, Option.bind_some, reduceIte, or_false, false_or, or_self, or_true, true_or, and_true, true_and, and_false, false_and, not_true_eq_false, not_false_eq_true, i4, g, b3, m3, b5, r1, r3, n1, n2]
                  · unfold fX7_copy fX5_copyTo
                    simp (disch := omega) only [Nat.zero_add, qa, qb, qbb, qc, qd, qe, qf, qg, Option.bind_some, reduceIte, or_false, false_or, or_self, or_true, true_or, and_true, true_and, and_false, false_and, not_true_eq_false, not_false_eq_true, i4, g, g', b3, m3, c3, b5, r1, c5, r3, n1, n2, sd]
                · unfold fX8_copy
                  simp (disch := omega) only [Nat.zero_add, qa, qb, qbb, qc, qd, qe, qf, qg, Option.bind_some, reduceIte, or_false, false_or, or_self, or_true, true_or, and_true, true_and, and_false, false_and, not_true_eq_false, not_false_eq_true, j4, g, g', b6, c6, b4, c4, r2, r4]
                  exact E1.trans E2
          · refine ⟨-nI 13, va, be, mo, mb, pl, bl, ?_, ?_, h⟩
            · unfold fX7_copy
              simp (disch := omega) only [Nat.zero_add, qa, qb, qbb, qc, qd, qe, qf, qg, Option.bind_some, reduceIte, or_false, false_or, or_self, or_true, true_or, and_true, true_and, and_false, false_and, not_true_eq_false, not_false_eq_true, i4, g, g', b3, m3, c3, m4]
            · unfold fX8_copy
              simp (disch := omega) only [Nat.zero_add, qa, qb, qbb, qc, qd, qe, qf, qg, Option.bind_some, reduceIte, or_false, false_or, or_self, or_true, true_or, and_true, true_and, and_false, false_and, not_true_eq_false, not_false_eq_true, j4, g, g', b6, c6, b4, c4]
