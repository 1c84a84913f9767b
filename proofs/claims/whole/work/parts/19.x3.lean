/-- the reference's lines: from l on all are at their last -/
def atMax (O : Nat → Nat) (nm nl l : Nat) (D : Nat → Nat) : Prop := ∀ j, l ≤ j → j < nl → if O j = 0 then D j = nm else D j = 0
/-- the reference goes on to the next line -/
theorem pu_nl_go {n : Nat} {nm nl : Nat} {O : Nat → Nat} {row : Nat → Int32} (hnm : nm ≤ 4) (hnl : nl ≤ 5) (h16 : row 16 = nI nm) (hO : ∀ j, j < nl → O j ≤ nm ∧ row (4 + j) = onI (O j)) {l x : Nat} (hl : l < nl) (hl0 : O l = 0) (hx : x < nm) : ∀ (t j k : Nat) (D : Nat → Nat) (line : Nat → Int32), l + t = j → j < nl → (∀ i, i < nl → line i = nI (D i)) → (∀ i, l < i → i ≤ j → if O i = 0 then D i = nm else D i = 0) → D l = x →
    ∃ line', fX8_nextLine_10 n row (k + t + 1) line (nI j) = some (nI 1, line') ∧ ∀ i, i < nl → line' i = nI (if i = l then x + 1 else if l < i ∧ i ≤ j then 0 else D i) := by
  intro t
  induction t with
  | zero =>
    intro j k D line hj hj2 hli hmax hDl
    have : j = l := by omega
    subst this
    obtain ⟨o1, o2⟩ := hO j hl
    rw [hl0] at o2
    have l1 := hli j hl
    rw [hDl] at l1
    refine ⟨upd line j (nI (x + 1)), ?_, fun i hi => ?_⟩
    · unfold fX8_nextLine_10 fX8_nextLine_55 fX8_nextLine_69 fX8_nextLine_78
      simp (disch := omega) only [Nat.zero_add, qa, qb, qbb, qc, qd, qe, qf, qg, Option.bind_some, reduceIte, or_false, false_or, or_self, or_true, true_or, and_true, true_and, and_false, false_and, not_true_eq_false, not_false_eq_true, o2, l1, h16]
    · by_cases e : i = j
      · rw [e, upd_at, if_pos rfl]
      · rw [upd_ne _ _ e, if_neg e, if_neg (by omega)]
        exact hli i hi
  | succ t ih =>
    intro j k D line hj hj2 hli hmax hDl
    obtain ⟨o1, o2⟩ := hO j hj2
    have l1 := hli j hj2
    have mx := hmax j (by omega) (Nat.le_refl _)
    obtain ⟨i0, rfl⟩ : ∃ i0, j = i0 + 1 := ⟨j - 1, by omega⟩
    obtain ⟨line', E, h2⟩ := ih i0 k (updN D (i0 + 1) 0) (upd line (i0 + 1) (nI 0)) (by omega) (by omega) (fun i hi => by
      by_cases e : i = i0 + 1
      · rw [e, upd_at, updN_at]
      · rw [upd_ne _ _ e, updN_ne _ _ e]; exact hli i hi) (fun i hi hi2 => by rw [updN_ne _ _ (by omega)]; exact hmax i hi (by omega)) (by rw [updN_ne _ _ (by omega)]; exact hDl)
    refine ⟨line', ?_, fun i hi => ?_⟩
    · have e : k + (t + 1) + 1 = (k + t + 1) + 1 := by omega
      have e1 : nI (i0 + 1) + onI 0 = nI i0 := pk_m1 i0
      rw [e, fX8_nextLine_10]
      unfold fX8_nextLine_42
      by_cases c : O (i0 + 1) = 0
      · rw [if_pos c] at mx
        rw [mx] at l1
        rw [c] at o2
        simp (disch := omega) only [Nat.zero_add, qa, qb, qbb, qc, qd, qe, qf, qg, Option.bind_some, reduceIte, or_false, false_or, or_self, or_true, true_or, and_true, true_and, and_false, false_and, not_true_eq_false, not_false_eq_true, o2, l1, h16, e1]
        exact E
      · rw [onI_ne0 c] at o2
        simp (disch := omega) only [Nat.zero_add, qa, qb, qbb, qc, qd, qe, qf, qg, Option.bind_some, reduceIte, or_false, false_or, or_self, or_true, true_or, and_true, true_and, and_false, false_and, not_true_eq_false, not_false_eq_true, o2, e1]
        exact E
    · rw [h2 i hi]
      by_cases e : i = l
      · rw [if_pos e, if_pos e]
      · rw [if_neg e, if_neg e]
        by_cases e2 : i = i0 + 1
        · rw [if_neg (by omega), if_pos (by omega), e2, updN_at]
        · by_cases e3 : l < i ∧ i ≤ i0
          · rw [if_pos e3, if_pos (by omega)]
          · rw [if_neg e3, if_neg (by omega), updN_ne _ _ e2]
/-- .. or there is none -/
theorem pu_nl_end {n : Nat} {nm nl : Nat} {O : Nat → Nat} {row : Nat → Int32} (hnm : nm ≤ 4) (hnl : nl ≤ 5) (h16 : row 16 = nI nm) (hO : ∀ j, j < nl → O j ≤ nm ∧ row (4 + j) = onI (O j)) : ∀ (j k : Nat) (D : Nat → Nat) (line : Nat → Int32), j ≤ nl → (∀ i, i < nl → line i = nI (D i)) → (∀ i, i < j → if O i = 0 then D i = nm else D i = 0) →
    ∃ line', fX8_nextLine_10 n row (k + j + 1) line (nI j - nI 1) = some (nI 0, line') := by
  intro j
  induction j with
  | zero =>
    intro k D line hj hli hmax
    have e1 : nI 0 - nI 1 = onI 0 := q_lin (by omega)
    have e2 : onI 0 < nI 0 := by decide
    refine ⟨line, ?_⟩
    rw [e1]
    unfold fX8_nextLine_10 fX8_nextLine_55 fX8_nextLine_69 fX8_nextLine_78
    simp (disch := omega) only [Nat.zero_add, qa, qb, qbb, qc, qd, qe, qf, qg, Option.bind_some, reduceIte, or_false, false_or, or_self, or_true, true_or, and_true, true_and, and_false, false_and, not_true_eq_false, not_false_eq_true, e2]
  | succ j ih =>
    intro k D line hj hli hmax
    obtain ⟨o1, o2⟩ := hO j (by omega)
    have l1 := hli j (by omega)
    have mx := hmax j (by omega)
    obtain ⟨line', E⟩ := ih k (updN D j 0) (upd line j (nI 0)) (by omega) (fun i hi => by
      by_cases e : i = j
      · rw [e, upd_at, updN_at]
      · rw [upd_ne _ _ e, updN_ne _ _ e]; exact hli i hi) (fun i hi => by rw [updN_ne _ _ (by omega)]; exact hmax i (by omega))
    refine ⟨line', ?_⟩
    have e : k + (j + 1) + 1 = (k + j + 1) + 1 := by omega
    have e0 : nI (j + 1) - nI 1 = nI j := by rw [q_sub (by omega), Nat.add_sub_cancel]
    have e1 : nI j + onI 0 = nI j - nI 1 := by
      show nI j + (-1) = nI j - 1
      rw [Int32.sub_eq_add_neg]
    rw [e, e0, fX8_nextLine_10]
    unfold fX8_nextLine_42
    by_cases c : O j = 0
    · rw [if_pos c] at mx
      rw [mx] at l1
      rw [c] at o2
      rw [← E]
      simp (disch := omega) only [Nat.zero_add, qa, qb, qbb, qc, qd, qe, qf, qg, Option.bind_some, reduceIte, or_false, false_or, or_self, or_true, true_or, and_true, true_and, and_false, false_and, not_true_eq_false, not_false_eq_true, o2, l1, h16]
      rw [e1]
    · rw [onI_ne0 c] at o2
      rw [← E]
      simp (disch := omega) only [Nat.zero_add, qa, qb, qbb, qc, qd, qe, qf, qg, Option.bind_some, reduceIte, or_false, false_or, or_self, or_true, true_or, and_true, true_and, and_false, false_and, not_true_eq_false, not_false_eq_true, o2]
      rw [e1]
