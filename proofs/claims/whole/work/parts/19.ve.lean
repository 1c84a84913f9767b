/-! slates -/
/-- a part as it is held: nothing, or what is above and below -/
def okP (v : Int64) (b : Int32) : Prop := (v = lN 0 ∧ b = nI 0) ∨ ∃ a y, absL v a ∧ a ≤ 1000000 ∧ b = nI y ∧ 1 ≤ y ∧ y ≤ 1000000
def relT1 (s : Nat) (so si : Int32) (va be : Nat → Int64) (sz st : Int32) (pl : Nat → Int64) (bl : Nat → Int32) : Prop :=
  (so = onI 0 ∧ sz = onI 0) ∨ ∃ q z, q < 3 ∧ z ≤ 10 ∧ so = nI q ∧ st = nI q ∧ si = nI z ∧ sz = nI z ∧ ∀ i, i < 10 → va i = pl (10 * s + i) ∧ be i = (bl (10 * s + i)).toInt64 ∧ (q = 2 → okP (pl (10 * s + i)) (bl (10 * s + i)))
def relT (so si : Nat → Int32) (va be : Nat → Nat → Int64) (sz st : Nat → Int32) (pl : Nat → Int64) (bl : Nat → Int32) : Prop := ∀ s, s < 4 → relT1 s (so s) (si s) (va s) (be s) (sz s) (st s) pl bl
theorem up_self {α : Type} (f : Nat → α) (i : Nat) : va_up f i (f i) = f := by
  funext j
  by_cases e : j = i
  · rw [e, up_at]
  · rw [up_ne _ _ e]
theorem relT_up {so si : Nat → Int32} {va be : Nat → Nat → Int64} {sz st : Nat → Int32} {pl : Nat → Int64} {bl : Nat → Int32} (h : relT so si va be sz st pl bl) {s : Nat} {so' si' : Int32} {va' be' : Nat → Int64} {sz' st' : Int32} {pl' : Nat → Int64} {bl' : Nat → Int32}
    (h1 : relT1 s so' si' va' be' sz' st' pl' bl') (h2 : ∀ j, j < 10 * s ∨ 10 * s + 10 ≤ j → pl' j = pl j ∧ bl' j = bl j) : relT (va_up so s so') (va_up si s si') (va_up va s va') (va_up be s be') (upd sz s sz') (upd st s st') pl' bl' := by
  intro r hr
  by_cases e : r = s
  · subst e
    rw [up_at, up_at, up_at, up_at, upd_at, upd_at]
    exact h1
  · rw [up_ne _ _ e, up_ne _ _ e, up_ne _ _ e, up_ne _ _ e, upd_ne _ _ e, upd_ne _ _ e]
    rcases h r hr with a | ⟨q, z, b1, b2, b3, b4, b5, b6, b7⟩
    · exact Or.inl a
    · refine Or.inr ⟨q, z, b1, b2, b3, b4, b5, b6, fun i hi => ?_⟩
      obtain ⟨c1, c2⟩ := h2 (10 * r + i) (by omega)
      rw [c1, c2]
      exact b7 i hi
theorem pu_isSlate7 (n : Nat) (v : Int32) : fX7_isSlate n v = some (inG v 4) := pu_hasMemberG n 4 v
theorem pu_isSlate8 (n : Nat) (v : Int32) : fX8_isSlate n v = some (inG v 4) := by
  unfold fX8_isSlate
  have h : fX8_in n v.toInt64 0 3 = some (inG v 4) := pu_inN n v (N := 4) (by decide)
  rw [h, Option.bind_some, if_pos (inG_01 v 4)]
theorem pu_isSort7 (n : Nat) (v : Int32) : fX7_isSort n v = some (inG v 3) := pu_hasMemberG n 3 v
theorem pu_isSort8 (n : Nat) (v : Int32) : fX8_in n v.toInt64 (lN 0) (lN 2) = some (inG v 3) := pu_inN n v (N := 3) (by decide)
theorem ql : (∀ (f : Nat → Int64) (i j : Nat) (x : Int64), j = i → vp_updL f i x j = x) ∧ (∀ (f : Nat → Int64) (i j : Nat) (x : Int64), j ≠ i → vp_updL f i x j = f j) :=
  ⟨fun _ _ _ _ h => if_pos h, fun _ _ _ _ h => if_neg h⟩
theorem pu_begin_loop (n : Nat) (so si : Int32) : ∀ (t i k : Nat) (va be : Nat → Int64), i + t = 10 → (∀ j, j < i → va j = lN 0 ∧ be j = lN 0) →
    ∃ va' be', fX5_begin_12 n (k + t + 1) so si va be (nI i) = some (so, si, va', be') ∧ ∀ j, j < 10 → va' j = lN 0 ∧ be' j = lN 0 := by
  intro t
  induction t with
  | zero =>
    intro i k va be hi h
    refine ⟨va, be, ?_, fun j hj => h j (by omega)⟩
    unfold fX5_begin_12
    simp (disch := omega) only [Nat.zero_add, qa, qb, qbb, qc, qd, qe, qf, qg, Option.bind_some, reduceIte, or_false, false_or, or_self, or_true, true_or, and_true, true_and, and_false, false_and, not_true_eq_false, not_false_eq_true]
  | succ t ih =>
    intro i k va be hi h
    obtain ⟨va', be', E, h2⟩ := ih (i + 1) k (vp_updL va i (lN 0)) (vp_updL be i (lN 0)) (by omega) (fun j hj => by
      by_cases e : j = i
      · rw [ql.1 _ _ _ _ e, ql.1 _ _ _ _ e]; exact ⟨rfl, rfl⟩
      · rw [ql.2 _ _ _ _ e, ql.2 _ _ _ _ e]; exact h j (by omega))
    refine ⟨va', be', ?_, h2⟩
    have e : k + (t + 1) + 1 = (k + t + 1) + 1 := by omega
    rw [e]
    unfold fX5_begin_12
    simp (disch := omega) only [Nat.zero_add, qa, qb, qbb, qc, qd, qe, qf, qg, Option.bind_some, reduceIte, or_false, false_or, or_self, or_true, true_or, and_true, true_and, and_false, false_and, not_true_eq_false, not_false_eq_true]
    exact E
theorem pu_begin {n : Nat} (hn : 400 ≤ n) (a b so si : Int32) (va be : Nat → Int64) : ∃ va' be', fX5_begin n a b va be so si = some (so, si, va', be') ∧ ∀ j, j < 10 → va' j = lN 0 ∧ be' j = lN 0 := by
  obtain ⟨va', be', E, h⟩ := pu_begin_loop n so si 10 0 (n - 11) va be (by omega) (fun j hj => absurd hj (Nat.not_lt_zero j))
  have e : n - 11 + 10 + 1 = n := by omega
  rw [e] at E
  exact ⟨va', be', E, h⟩
theorem pu_slate8_loop (n : Nat) {s z : Nat} (hs : s < 4) (sz st : Nat → Int32) : ∀ (t i k : Nat) (pl : Nat → Int64) (bl : Nat → Int32), i + t = 10 →
    ∃ pl' bl', fX8_slate_55 n (k + t + 1) sz st pl bl (nI s) (nI z) (nI i) = some (nI z, sz, st, pl', bl') ∧ (∀ j, i ≤ j → j < 10 → pl' (10 * s + j) = lN 0 ∧ bl' (10 * s + j) = nI 0) ∧ ∀ j, j < 10 * s + i ∨ 10 * s + 10 ≤ j → pl' j = pl j ∧ bl' j = bl j := by
  intro t
  induction t with
  | zero =>
    intro i k pl bl hi
    refine ⟨pl, bl, ?_, fun j h1 h2 => absurd h2 (by omega), fun _ _ => ⟨rfl, rfl⟩⟩
    unfold fX8_slate_55
    simp (disch := omega) only [Nat.zero_add, qa, qb, qbb, qc, qd, qe, qf, qg, Option.bind_some, reduceIte, or_false, false_or, or_self, or_true, true_or, and_true, true_and, and_false, false_and, not_true_eq_false, not_false_eq_true]
  | succ t ih =>
    intro i k pl bl hi
    obtain ⟨pl', bl', E, h1, h2⟩ := ih (i + 1) k (vp_updL pl (10 * s + i) (lN 0)) (upd bl (10 * s + i) (nI 0)) (by omega)
    refine ⟨pl', bl', ?_, fun j hj hj2 => ?_, fun j hj => ?_⟩
    · have e : k + (t + 1) + 1 = (k + t + 1) + 1 := by omega
      rw [e]
      unfold fX8_slate_55
      simp (disch := omega) only [Nat.zero_add, qa, qb, qbb, qc, qd, qe, qf, qg, Option.bind_some, reduceIte, or_false, false_or, or_self, or_true, true_or, and_true, true_and, and_false, false_and, not_true_eq_false, not_false_eq_true]
      exact E
    · by_cases e : j = i
      · obtain ⟨c1, c2⟩ := h2 (10 * s + j) (by omega)
        rw [c1, c2, ql.1 _ _ _ _ (by omega), qf.1 _ _ _ _ (by omega)]
        exact ⟨rfl, rfl⟩
      · exact h1 j (by omega) hj2
    · obtain ⟨c1, c2⟩ := h2 j (by omega)
      rw [c1, c2, ql.2 _ _ _ _ (by omega), qf.2 _ _ _ _ (by omega)]
      exact ⟨rfl, rfl⟩
/-- the call slate -/
theorem pu_slate {n : Nat} (hn : 400 ≤ n) {so si : Nat → Int32} {va be : Nat → Nat → Int64} {sz st : Nat → Int32} {pl : Nat → Int64} {bl : Nat → Int32} (h : relT so si va be sz st pl bl) (v1 v2 v3 : Int32) :
    ∃ (r : Int32) (so' si' : Nat → Int32) (va' be' : Nat → Nat → Int64) (sz' st' : Nat → Int32) (pl' : Nat → Int64) (bl' : Nat → Int32), fX7_slate n so si va be v1 v2 v3 = some (r, so', si', va', be') ∧ fX8_slate n sz st pl bl v1 v2 v3 = some (r, sz', st', pl', bl') ∧ relT so' si' va' be' sz' st' pl' bl' := by
  have i4 := pu_isSlate7 n
  have j4 := pu_isSlate8 n
  have i3 := pu_isSort7 n
  have j3 := pu_isSort8 n
  rcases inG_cas v1 (N := 4) (by omega) with g | ⟨s, hs, rfl, g⟩
  · refine ⟨-nI 2, so, si, va, be, sz, st, pl, bl, ?_, ?_, h⟩
    · unfold fX7_slate
      simp (disch := omega) only [Nat.zero_add, qa, qb, qbb, qc, qd, qe, qf, qg, Option.bind_some, reduceIte, or_false, false_or, or_self, or_true, true_or, and_true, true_and, and_false, false_and, not_true_eq_false, not_false_eq_true, i4, g]
    · unfold fX8_slate
      simp (disch := omega) only [Nat.zero_add, qa, qb, qbb, qc, qd, qe, qf, qg, Option.bind_some, reduceIte, or_false, false_or, or_self, or_true, true_or, and_true, true_and, and_false, false_and, not_true_eq_false, not_false_eq_true, j4, g]
  · rcases q_cas v2 (a := 0) (N := 3) (by omega) (by omega) with ⟨q, -, hq, rfl⟩ | g1 | ⟨g1, -, g4, g2, g3⟩
    · have g2 := inG_1 hq (by omega)
      rcases q_cas v3 (a := 0) (N := 11) (by omega) (by omega) with ⟨z, -, hz, rfl⟩ | g1 | ⟨g1, -, -, g5, g3⟩
      · obtain ⟨va', be', E1, h1⟩ := pu_begin hn (so s) (si s) (nI q) (nI z) (va s) (be s)
        obtain ⟨pl', bl', E2, h2, h3⟩ := pu_slate8_loop n (z := z) hs (upd sz s (nI z)) (upd st s (nI q)) 10 0 (n - 11) pl bl (by omega)
        have e : n - 11 + 10 + 1 = n := by omega
        rw [e] at E2
        refine ⟨nI z, va_up so s (nI q), va_up si s (nI z), va_up va s va', va_up be s be', upd sz s (nI z), upd st s (nI q), pl', bl', ?_, ?_, ?_⟩
        · unfold fX7_slate
          simp (disch := omega) only [Nat.zero_add, qa, qb, qbb, qc, qd, qe, qf, qg, Option.bind_some, reduceIte, or_false, false_or, or_self, or_true, true_or, and_true, true_and, and_false, false_and, not_true_eq_false, not_false_eq_true, i4, g, i3, g2, E1]
        · unfold fX8_slate
          simp (disch := omega) only [Nat.zero_add, qa, qb, qbb, qc, qd, qe, qf, qg, Option.bind_some, reduceIte, or_false, false_or, or_self, or_true, true_or, and_true, true_and, and_false, false_and, not_true_eq_false, not_false_eq_true, j4, g]
          exact E2
        · refine relT_up h (Or.inr ⟨q, z, hq, by omega, rfl, rfl, rfl, rfl, fun i hi => ?_⟩) (fun j hj => h3 j (by omega))
          obtain ⟨c1, c2⟩ := h1 i hi
          obtain ⟨d1, d2⟩ := h2 i (by omega) hi
          rw [c1, c2, d1, d2]
          exact ⟨rfl, (nI_l (by decide)).symm, fun _ => Or.inl ⟨rfl, rfl⟩⟩
      · have g6 : v3 ≤ nI 10 := by
          rw [Int32.le_iff_toInt_le]
          rw [Int32.lt_iff_toInt_lt] at g1
          rw [nI_toInt (by decide)] at g1 ⊢
          omega
        have g7 : ¬ nI 0 ≤ v3 := by
          rw [Int32.le_iff_toInt_le]
          rw [Int32.lt_iff_toInt_lt] at g1
          omega
        refine ⟨-nI 16, so, si, va, be, sz, st, pl, bl, ?_, ?_, h⟩
        · unfold fX7_slate
          simp (disch := omega) only [Nat.zero_add, qa, qb, qbb, qc, qd, qe, qf, qg, Option.bind_some, reduceIte, or_false, false_or, or_self, or_true, true_or, and_true, true_and, and_false, false_and, not_true_eq_false, not_false_eq_true, i4, g, i3, g2, g6, g7]
        · unfold fX8_slate
          simp (disch := omega) only [Nat.zero_add, qa, qb, qbb, qc, qd, qe, qf, qg, Option.bind_some, reduceIte, or_false, false_or, or_self, or_true, true_or, and_true, true_and, and_false, false_and, not_true_eq_false, not_false_eq_true, j4, g, g6, g7]
      · refine ⟨-nI 3, so, si, va, be, sz, st, pl, bl, ?_, ?_, h⟩
        · unfold fX7_slate fX7_slate_23
          simp (disch := omega) only [Nat.zero_add, qa, qb, qbb, qc, qd, qe, qf, qg, Option.bind_some, reduceIte, or_false, false_or, or_self, or_true, true_or, and_true, true_and, and_false, false_and, not_true_eq_false, not_false_eq_true, i4, g, i3, g2, g5]
        · unfold fX8_slate fX8_slate_28
          simp (disch := omega) only [Nat.zero_add, qa, qb, qbb, qc, qd, qe, qf, qg, Option.bind_some, reduceIte, or_false, false_or, or_self, or_true, true_or, and_true, true_and, and_false, false_and, not_true_eq_false, not_false_eq_true, j4, g, g5]
    · have g2 : inG v2 3 = nI 0 := if_pos (Or.inl g1)
      refine ⟨-nI 3, so, si, va, be, sz, st, pl, bl, ?_, ?_, h⟩
      · unfold fX7_slate fX7_slate_23
        simp (disch := omega) only [Nat.zero_add, qa, qb, qbb, qc, qd, qe, qf, qg, Option.bind_some, reduceIte, or_false, false_or, or_self, or_true, true_or, and_true, true_and, and_false, false_and, not_true_eq_false, not_false_eq_true, i4, g, i3, g2]
      · unfold fX8_slate fX8_slate_28
        simp (disch := omega) only [Nat.zero_add, qa, qb, qbb, qc, qd, qe, qf, qg, Option.bind_some, reduceIte, or_false, false_or, or_self, or_true, true_or, and_true, true_and, and_false, false_and, not_true_eq_false, not_false_eq_true, j4, g, g1]
    · have g5 : inG v2 3 = nI 0 := if_pos (Or.inr g4)
      refine ⟨-nI 3, so, si, va, be, sz, st, pl, bl, ?_, ?_, h⟩
      · unfold fX7_slate fX7_slate_23
        simp (disch := omega) only [Nat.zero_add, qa, qb, qbb, qc, qd, qe, qf, qg, Option.bind_some, reduceIte, or_false, false_or, or_self, or_true, true_or, and_true, true_and, and_false, false_and, not_true_eq_false, not_false_eq_true, i4, g, i3, g5]
      · unfold fX8_slate fX8_slate_28
        simp (disch := omega) only [Nat.zero_add, qa, qb, qbb, qc, qd, qe, qf, qg, Option.bind_some, reduceIte, or_false, false_or, or_self, or_true, true_or, and_true, true_and, and_false, false_and, not_true_eq_false, not_false_eq_true, j4, g, g1, g3]
theorem pu_missing (n : Nat) : fX5_isMissing n (onI 0) = some (nI 1) ∧ ∀ q, q < 3 → fX5_isMissing n (nI q) = some (nI 0) := by
  refine ⟨?_, fun q hq => ?_⟩
  · rw [pu_isMissing, if_pos onI_0]; rfl
  · rw [pu_isMissing, if_neg (onI_nn1 (by omega))]; rfl
/-- the call drop -/
theorem pu_drop (n : Nat) {so si : Nat → Int32} {va be : Nat → Nat → Int64} {sz st : Nat → Int32} {pl : Nat → Int64} {bl : Nat → Int32} (h : relT so si va be sz st pl bl) (v1 : Int32) :
    ∃ (r : Int32) (so' si' : Nat → Int32) (sz' : Nat → Int32), fX7_drop n so si v1 = some (r, so', si') ∧ fX8_drop n sz v1 = some (r, sz') ∧ relT so' si' va be sz' st pl bl := by
  have i4 := pu_isSlate7 n
  have j4 := pu_isSlate8 n
  obtain ⟨m1, m2⟩ := pu_missing n
  rcases inG_cas v1 (N := 4) (by omega) with g | ⟨s, hs, rfl, g⟩
  · refine ⟨-nI 2, so, si, sz, ?_, ?_, h⟩
    · unfold fX7_drop
      simp (disch := omega) only [Nat.zero_add, qa, qb, qbb, qc, qd, qe, qf, qg, Option.bind_some, reduceIte, or_false, false_or, or_self, or_true, true_or, and_true, true_and, and_false, false_and, not_true_eq_false, not_false_eq_true, i4, g]
    · unfold fX8_drop
      simp (disch := omega) only [Nat.zero_add, qa, qb, qbb, qc, qd, qe, qf, qg, Option.bind_some, reduceIte, or_false, false_or, or_self, or_true, true_or, and_true, true_and, and_false, false_and, not_true_eq_false, not_false_eq_true, j4, g]
  · rcases h s hs with ⟨a1, a2⟩ | ⟨q, z, b1, b2, b3, b4, b5, b6, b7⟩
    · refine ⟨-nI 11, so, si, sz, ?_, ?_, h⟩
      · unfold fX7_drop
        simp (disch := omega) only [Nat.zero_add, qa, qb, qbb, qc, qd, qe, qf, qg, Option.bind_some, reduceIte, or_false, false_or, or_self, or_true, true_or, and_true, true_and, and_false, false_and, not_true_eq_false, not_false_eq_true, i4, g, a1, m1]
      · have a3 : ¬ nI 0 ≤ onI 0 := by decide
        unfold fX8_drop
        simp (disch := omega) only [Nat.zero_add, qa, qb, qbb, qc, qd, qe, qf, qg, Option.bind_some, reduceIte, or_false, false_or, or_self, or_true, true_or, and_true, true_and, and_false, false_and, not_true_eq_false, not_false_eq_true, j4, g, a2, a3]
    · have m3 := m2 q b1
      refine ⟨nI z, va_up so s (onI 0), va_up si s (nI 0), upd sz s (onI 0), ?_, ?_, ?_⟩
      · unfold fX7_drop fX5_setMissing
        simp (disch := omega) only [Nat.zero_add, qa, qb, qbb, qc, qd, qe, qf, qg, Option.bind_some, reduceIte, or_false, false_or, or_self, or_true, true_or, and_true, true_and, and_false, false_and, not_true_eq_false, not_false_eq_true, i4, g, b3, m3, b5]
      · unfold fX8_drop
        simp (disch := omega) only [Nat.zero_add, qa, qb, qbb, qc, qd, qe, qf, qg, Option.bind_some, reduceIte, or_false, false_or, or_self, or_true, true_or, and_true, true_and, and_false, false_and, not_true_eq_false, not_false_eq_true, j4, g, b6]
      · have := relT_up h (s := s) (so' := onI 0) (si' := nI 0) (va' := va s) (be' := be s) (sz' := onI 0) (st' := st s) (pl' := pl) (bl' := bl) (Or.inl ⟨rfl, rfl⟩) (fun _ _ => ⟨rfl, rfl⟩)
        rw [up_self, up_self, upd_self rfl] at this
        exact this
