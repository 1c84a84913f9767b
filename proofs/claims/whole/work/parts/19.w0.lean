/-! TEXT: tokens -/
def smB (c : Nat) : Bool := decide (97 ≤ c) && decide (c ≤ 122)
def dgB (c : Nat) : Bool := decide (48 ≤ c) && decide (c ≤ 57)
/-- behind the spaces, of t places from i -/
def spS (L : Nat → Nat) : Nat → Nat → Nat
  | 0, i => i
  | t + 1, i => if L i = 32 then spS L t (i + 1) else i
/-- behind a run of those of p -/
def runS (L : Nat → Nat) (p : Nat → Bool) : Nat → Nat → Nat
  | 0, i => i
  | t + 1, i => if p (L i) = true then runS L p t (i + 1) else i
def tkS (L : Nat → Nat) (z e : Nat) : Nat := spS L (z - e) e
def tkE (L : Nat → Nat) (z s : Nat) : Nat := if s < z then (if smB (L s) = true then runS L smB (z - s) s else if dgB (L s) = true then runS L dgB (z - s) s else s + 1) else s
theorem spS_b (L : Nat → Nat) : ∀ (t i : Nat), i ≤ spS L t i ∧ spS L t i ≤ i + t := by
  intro t
  induction t with
  | zero => intro i; exact ⟨Nat.le_refl _, Nat.le_refl _⟩
  | succ t ih =>
    intro i
    have := ih (i + 1)
    unfold spS
    split <;> omega
theorem runS_b (L : Nat → Nat) (p : Nat → Bool) : ∀ (t i : Nat), i ≤ runS L p t i ∧ runS L p t i ≤ i + t ∧ ∀ j, i ≤ j → j < runS L p t i → p (L j) = true := by
  intro t
  induction t with
  | zero => intro i; exact ⟨Nat.le_refl _, Nat.le_refl _, fun j h1 h2 => absurd h2 (by show ¬ j < i; omega)⟩
  | succ t ih =>
    intro i
    obtain ⟨h1, h2, h3⟩ := ih (i + 1)
    unfold runS
    by_cases c : p (L i) = true
    · rw [if_pos c]
      refine ⟨by omega, by omega, fun j k1 k2 => ?_⟩
      by_cases e : j = i
      · rw [e]; exact c
      · exact h3 j (by omega) k2
    · rw [if_neg c]
      exact ⟨by omega, by omega, fun j k1 k2 => absurd k2 (by omega)⟩
/-- a token that is looked at -/
def isTk (L : Nat → Nat) (z a b : Nat) : Prop := a ≤ z ∧ a ≤ b ∧ b ≤ z ∧ (a < z → a < b) ∧ (a < z → smB (L a) = true → ∀ j, a ≤ j → j < b → smB (L j) = true)
theorem tk_is (L : Nat → Nat) {z e : Nat} (he : e ≤ z) : isTk L z (tkS L z e) (tkE L z (tkS L z e)) := by
  obtain ⟨h1, h2⟩ := spS_b L (z - e) e
  have h3 : tkS L z e ≤ z := by unfold tkS; omega
  generalize tkS L z e = s at h3
  unfold tkE
  by_cases c : s < z
  · rw [if_pos c]
    by_cases d : smB (L s) = true
    · rw [if_pos d]
      obtain ⟨k1, k2, k3⟩ := runS_b L smB (z - s) s
      have k4 : runS L smB (z - s) s = runS L smB (z - s - 1) (s + 1) := by
        obtain ⟨t, ht⟩ : ∃ t, z - s = t + 1 := ⟨z - s - 1, by omega⟩
        rw [ht, Nat.add_sub_cancel]
        exact if_pos d
      obtain ⟨k5, k6, -⟩ := runS_b L smB (z - s - 1) (s + 1)
      exact ⟨h3, k1, by omega, fun _ => by omega, fun _ _ => k3⟩
    · rw [if_neg d]
      by_cases f : dgB (L s) = true
      · rw [if_pos f]
        obtain ⟨k1, k2, k3⟩ := runS_b L dgB (z - s) s
        have k4 : runS L dgB (z - s) s = runS L dgB (z - s - 1) (s + 1) := by
          obtain ⟨t, ht⟩ : ∃ t, z - s = t + 1 := ⟨z - s - 1, by omega⟩
          rw [ht, Nat.add_sub_cancel]
          exact if_pos f
        obtain ⟨k5, k6, -⟩ := runS_b L dgB (z - s - 1) (s + 1)
        exact ⟨h3, k1, by omega, fun _ => by omega, fun _ h => absurd h d⟩
      · rw [if_neg f]
        exact ⟨h3, by omega, by omega, fun _ => by omega, fun _ h => absurd h d⟩
  · rw [if_neg c]
    exact ⟨h3, Nat.le_refl _, h3, fun h => absurd h c, fun h => absurd h c⟩
theorem smB_t {c : Nat} (h1 : 97 ≤ c) (h2 : c ≤ 122) : smB c = true := by unfold smB; simp [h1, h2]
theorem smB_f {c : Nat} (h : c < 97 ∨ 122 < c) : smB c = false := by unfold smB; simp; omega
theorem smB_i {c : Nat} (h : smB c = true) : 97 ≤ c ∧ c ≤ 122 := by unfold smB at h; simpa using h
theorem dgB_t {c : Nat} (h1 : 48 ≤ c) (h2 : c ≤ 57) : dgB c = true := by unfold dgB; simp [h1, h2]
theorem dgB_f {c : Nat} (h : c < 48 ∨ 57 < c) : dgB c = false := by unfold dgB; simp; omega
theorem dgB_i {c : Nat} (h : dgB c = true) : 48 ≤ c ∧ c ≤ 57 := by unfold dgB at h; simpa using h
theorem pu_isLetter (n : Nat) {c : Nat} (h : c < 256) : fX8_isLetter n (nI c) = some (if smB c = true then nI 1 else nI 0) := by
  unfold fX8_isLetter
  by_cases c1 : 97 ≤ c
  · by_cases c2 : c ≤ 122
    · have := smB_t c1 c2
      simp (disch := omega) only [Nat.zero_add, qa, qb, qbb, qc, qd, qe, qf, qg, Option.bind_some, reduceIte, or_false, false_or, or_self, or_true, true_or, and_true, true_and, and_false, false_and, not_true_eq_false, not_false_eq_true, this]
    · have := smB_f (Or.inr (show 122 < c by omega))
      simp (disch := omega) only [Nat.zero_add, qa, qb, qbb, qc, qd, qe, qf, qg, Option.bind_some, reduceIte, or_false, false_or, or_self, or_true, true_or, and_true, true_and, and_false, false_and, not_true_eq_false, not_false_eq_true, this, Bool.false_eq_true]
  · have := smB_f (Or.inl (show c < 97 by omega))
    simp (disch := omega) only [Nat.zero_add, qa, qb, qbb, qc, qd, qe, qf, qg, Option.bind_some, reduceIte, or_false, false_or, or_self, or_true, true_or, and_true, true_and, and_false, false_and, not_true_eq_false, not_false_eq_true, this, Bool.false_eq_true]
theorem pu_isDigit8 (n : Nat) {c : Nat} (h : c < 256) : fX8_isDigit n (nI c) = some (if dgB c = true then nI 1 else nI 0) := by
  unfold fX8_isDigit
  by_cases c1 : 48 ≤ c
  · by_cases c2 : c ≤ 57
    · have := dgB_t c1 c2
      simp (disch := omega) only [Nat.zero_add, qa, qb, qbb, qc, qd, qe, qf, qg, Option.bind_some, reduceIte, or_false, false_or, or_self, or_true, true_or, and_true, true_and, and_false, false_and, not_true_eq_false, not_false_eq_true, this]
    · have := dgB_f (Or.inr (show 57 < c by omega))
      simp (disch := omega) only [Nat.zero_add, qa, qb, qbb, qc, qd, qe, qf, qg, Option.bind_some, reduceIte, or_false, false_or, or_self, or_true, true_or, and_true, true_and, and_false, false_and, not_true_eq_false, not_false_eq_true, this, Bool.false_eq_true]
  · have := dgB_f (Or.inl (show c < 48 by omega))
    simp (disch := omega) only [Nat.zero_add, qa, qb, qbb, qc, qd, qe, qf, qg, Option.bind_some, reduceIte, or_false, false_or, or_self, or_true, true_or, and_true, true_and, and_false, false_and, not_true_eq_false, not_false_eq_true, this, Bool.false_eq_true]
theorem pu_isSmall (n : Nat) {z i : Nat} {L : Nat → Nat} {lt te : Nat → Int32} (h : relL z L lt te) (hi : i < z) : fX6_isSmall n (nI z) lt (nI i) = some (if smB (L i) = true then nI 1 else nI 0) := by
  obtain ⟨hz, hl⟩ := h
  obtain ⟨l1, l2, -⟩ := hl i hi
  unfold fX6_isSmall fX6_isSmall_34 fX6_isSmall_35
  by_cases c1 : 97 ≤ L i
  · by_cases c2 : L i ≤ 122
    · have := smB_t c1 c2
      simp (disch := omega) only [Nat.zero_add, qa, qb, qbb, qc, qd, qe, qf, qg, Option.bind_some, reduceIte, or_false, false_or, or_self, or_true, true_or, and_true, true_and, and_false, false_and, not_true_eq_false, not_false_eq_true, l2, this]
    · have := smB_f (Or.inr (show 122 < L i by omega))
      simp (disch := omega) only [Nat.zero_add, qa, qb, qbb, qc, qd, qe, qf, qg, Option.bind_some, reduceIte, or_false, false_or, or_self, or_true, true_or, and_true, true_and, and_false, false_and, not_true_eq_false, not_false_eq_true, l2, this, Bool.false_eq_true]
  · have := smB_f (Or.inl (show L i < 97 by omega))
    simp (disch := omega) only [Nat.zero_add, qa, qb, qbb, qc, qd, qe, qf, qg, Option.bind_some, reduceIte, or_false, false_or, or_self, or_true, true_or, and_true, true_and, and_false, false_and, not_true_eq_false, not_false_eq_true, l2, this, Bool.false_eq_true]
theorem pu_isSmallz (n z : Nat) (lt : Nat → Int32) (hz : z ≤ 200) : fX6_isSmall n (nI z) lt (nI z) = some (nI 0) := by
  unfold fX6_isSmall fX6_isSmall_34 fX6_isSmall_35
  simp (disch := omega) only [Nat.zero_add, qa, qb, qbb, qc, qd, qe, qf, qg, Option.bind_some, reduceIte, or_false, false_or, or_self, or_true, true_or, and_true, true_and, and_false, false_and, not_true_eq_false, not_false_eq_true]
theorem pu_isDigit7 (n : Nat) {z i : Nat} {L : Nat → Nat} {lt te : Nat → Int32} (h : relL z L lt te) (hi : i < z) : fX6_isDigit n (nI z) lt (nI i) = some (if dgB (L i) = true then nI 1 else nI 0) := by
  obtain ⟨hz, hl⟩ := h
  obtain ⟨l1, l2, -⟩ := hl i hi
  unfold fX6_isDigit fX6_isDigit_34 fX6_isDigit_35
  by_cases c1 : 48 ≤ L i
  · by_cases c2 : L i ≤ 57
    · have := dgB_t c1 c2
      simp (disch := omega) only [Nat.zero_add, qa, qb, qbb, qc, qd, qe, qf, qg, Option.bind_some, reduceIte, or_false, false_or, or_self, or_true, true_or, and_true, true_and, and_false, false_and, not_true_eq_false, not_false_eq_true, l2, this]
    · have := dgB_f (Or.inr (show 57 < L i by omega))
      simp (disch := omega) only [Nat.zero_add, qa, qb, qbb, qc, qd, qe, qf, qg, Option.bind_some, reduceIte, or_false, false_or, or_self, or_true, true_or, and_true, true_and, and_false, false_and, not_true_eq_false, not_false_eq_true, l2, this, Bool.false_eq_true]
  · have := dgB_f (Or.inl (show L i < 48 by omega))
    simp (disch := omega) only [Nat.zero_add, qa, qb, qbb, qc, qd, qe, qf, qg, Option.bind_some, reduceIte, or_false, false_or, or_self, or_true, true_or, and_true, true_and, and_false, false_and, not_true_eq_false, not_false_eq_true, l2, this, Bool.false_eq_true]
theorem pu_isDigitz (n z : Nat) (lt : Nat → Int32) (hz : z ≤ 200) : fX6_isDigit n (nI z) lt (nI z) = some (nI 0) := by
  unfold fX6_isDigit fX6_isDigit_34 fX6_isDigit_35
  simp (disch := omega) only [Nat.zero_add, qa, qb, qbb, qc, qd, qe, qf, qg, Option.bind_some, reduceIte, or_false, false_or, or_self, or_true, true_or, and_true, true_and, and_false, false_and, not_true_eq_false, not_false_eq_true]
theorem pu_st65 (n : Nat) {z : Nat} {L : Nat → Nat} {lt te : Nat → Int32} (h : relL z L lt te) (x : Int32) : ∀ (t i k : Nat), i + t = z → fX6_step_65 n (nI z) lt (k + t + 1) x (nI i) = some (x, nI (runS L smB t i)) := by
  have hz := h.1
  intro t
  induction t with
  | zero =>
    intro i k hi
    unfold fX6_step_65 fX6_step_167
    simp (disch := omega) only [Nat.zero_add, qa, qb, qbb, qc, qd, qe, qf, qg, Option.bind_some, reduceIte, or_false, false_or, or_self, or_true, true_or, and_true, true_and, and_false, false_and, not_true_eq_false, not_false_eq_true]
    rfl
  | succ t ih =>
    intro i k hi
    have E := ih (i + 1) k (by omega)
    have s := pu_isSmall n h (show i < z by omega)
    have e : k + (t + 1) + 1 = (k + t + 1) + 1 := by omega
    rw [e]
    unfold fX6_step_65 fX6_step_167 runS
    by_cases c : smB (L i) = true
    · simp (disch := omega) only [Nat.zero_add, qa, qb, qbb, qc, qd, qe, qf, qg, Option.bind_some, reduceIte, or_false, false_or, or_self, or_true, true_or, and_true, true_and, and_false, false_and, not_true_eq_false, not_false_eq_true, s, c]
      exact E
    · simp (disch := omega) only [Nat.zero_add, qa, qb, qbb, qc, qd, qe, qf, qg, Option.bind_some, reduceIte, or_false, false_or, or_self, or_true, true_or, and_true, true_and, and_false, false_and, not_true_eq_false, not_false_eq_true, s, c, Bool.false_eq_true]
theorem pu_st111 (n : Nat) {z : Nat} {L : Nat → Nat} {lt te : Nat → Int32} (h : relL z L lt te) (x : Int32) : ∀ (t i k : Nat), i + t = z → fX6_step_111 n (nI z) lt (k + t + 1) x (nI i) = some (x, nI (runS L dgB t i)) := by
  have hz := h.1
  intro t
  induction t with
  | zero =>
    intro i k hi
    unfold fX6_step_111 fX6_step_167
    simp (disch := omega) only [Nat.zero_add, qa, qb, qbb, qc, qd, qe, qf, qg, Option.bind_some, reduceIte, or_false, false_or, or_self, or_true, true_or, and_true, true_and, and_false, false_and, not_true_eq_false, not_false_eq_true]
    rfl
  | succ t ih =>
    intro i k hi
    have E := ih (i + 1) k (by omega)
    have s := pu_isDigit7 n h (show i < z by omega)
    have e : k + (t + 1) + 1 = (k + t + 1) + 1 := by omega
    rw [e]
    unfold fX6_step_111 fX6_step_167 runS
    by_cases c : dgB (L i) = true
    · simp (disch := omega) only [Nat.zero_add, qa, qb, qbb, qc, qd, qe, qf, qg, Option.bind_some, reduceIte, or_false, false_or, or_self, or_true, true_or, and_true, true_and, and_false, false_and, not_true_eq_false, not_false_eq_true, s, c]
      exact E
    · simp (disch := omega) only [Nat.zero_add, qa, qb, qbb, qc, qd, qe, qf, qg, Option.bind_some, reduceIte, or_false, false_or, or_self, or_true, true_or, and_true, true_and, and_false, false_and, not_true_eq_false, not_false_eq_true, s, c, Bool.false_eq_true]
theorem pu_st46 {n : Nat} (hn : 400 ≤ n) {z s : Nat} {L : Nat → Nat} {lt te : Nat → Int32} (h : relL z L lt te) (hs : s ≤ z) (x : Int32) : fX6_step_46 n (nI z) lt (nI s) x = some (nI s, nI (tkE L z s)) := by
  have hz := h.1
  have e1 := pu_st65 n h (nI s) (z - s) s (n - (z - s) - 1) (by omega)
  have e2 := pu_st111 n h (nI s) (z - s) s (n - (z - s) - 1) (by omega)
  have en : n - (z - s) - 1 + (z - s) + 1 = n := by omega
  rw [en] at e1 e2
  unfold fX6_step_46 fX6_step_167 tkE
  by_cases c : s < z
  · have d1 := pu_isSmall n h c
    have d2 := pu_isDigit7 n h c
    rw [if_pos c]
    by_cases c1 : smB (L s) = true
    · simp (disch := omega) only [Nat.zero_add, qa, qb, qbb, qc, qd, qe, qf, qg, Option.bind_some, reduceIte, or_false, false_or, or_self, or_true, true_or, and_true, true_and, and_false, false_and, not_true_eq_false, not_false_eq_true, d1, c1, e1]
    · by_cases c2 : dgB (L s) = true
      · simp (disch := omega) only [Nat.zero_add, qa, qb, qbb, qc, qd, qe, qf, qg, Option.bind_some, reduceIte, or_false, false_or, or_self, or_true, true_or, and_true, true_and, and_false, false_and, not_true_eq_false, not_false_eq_true, d1, d2, c1, c2, e2, Bool.false_eq_true]
      · simp (disch := omega) only [Nat.zero_add, qa, qb, qbb, qc, qd, qe, qf, qg, Option.bind_some, reduceIte, or_false, false_or, or_self, or_true, true_or, and_true, true_and, and_false, false_and, not_true_eq_false, not_false_eq_true, d1, d2, c1, c2, Bool.false_eq_true]
  · have : s = z := by omega
    subst this
    have d1 := pu_isSmallz n s lt hz
    have d2 := pu_isDigitz n s lt hz
    rw [if_neg c]
    simp (disch := omega) only [Nat.zero_add, qa, qb, qbb, qc, qd, qe, qf, qg, Option.bind_some, reduceIte, or_false, false_or, or_self, or_true, true_or, and_true, true_and, and_false, false_and, not_true_eq_false, not_false_eq_true, d1, d2]
theorem pu_st8 (n : Nat) {z : Nat} {L : Nat → Nat} {lt te : Nat → Int32} (h : relL z L lt te) (x : Int32) : ∀ (t i k : Nat), i + t = z → fX6_step_8 n (nI z) lt (k + t + 1) (nI i) x = fX6_step_46 n (nI z) lt (nI (spS L t i)) x := by
  have hz := h.1
  intro t
  induction t with
  | zero =>
    intro i k hi
    unfold fX6_step_8
    simp (disch := omega) only [Nat.zero_add, qa, qb, qbb, qc, qd, qe, qf, qg, Option.bind_some, reduceIte, or_false, false_or, or_self, or_true, true_or, and_true, true_and, and_false, false_and, not_true_eq_false, not_false_eq_true]
    rfl
  | succ t ih =>
    intro i k hi
    have E := ih (i + 1) k (by omega)
    obtain ⟨l1, l2, -⟩ := h.2 i (by omega)
    have e : k + (t + 1) + 1 = (k + t + 1) + 1 := by omega
    rw [e]
    unfold fX6_step_8 spS
    by_cases c : L i = 32
    · rw [if_pos c]
      simp (disch := omega) only [Nat.zero_add, qa, qb, qbb, qc, qd, qe, qf, qg, Option.bind_some, reduceIte, or_false, false_or, or_self, or_true, true_or, and_true, true_and, and_false, false_and, not_true_eq_false, not_false_eq_true, l2]
      exact E
    · rw [if_neg c]
      simp (disch := omega) only [Nat.zero_add, qa, qb, qbb, qc, qd, qe, qf, qg, Option.bind_some, reduceIte, or_false, false_or, or_self, or_true, true_or, and_true, true_and, and_false, false_and, not_true_eq_false, not_false_eq_true, l2]
/-- the class steps to the next token -/
theorem pu_step7 {n : Nat} (hn : 400 ≤ n) {z e : Nat} {L : Nat → Nat} {lt te : Nat → Int32} (h : relL z L lt te) (he : e ≤ z) (x : Int32) : fX6_step n (nI z) lt x (nI e) = some (nI (tkS L z e), nI (tkE L z (tkS L z e))) := by
  have hz := h.1
  have e1 := pu_st8 n h (nI e) (z - e) e (n - (z - e) - 1) (by omega)
  have en : n - (z - e) - 1 + (z - e) + 1 = n := by omega
  rw [en] at e1
  obtain ⟨h1, h2⟩ := spS_b L (z - e) e
  unfold fX6_step
  rw [e1]
  exact pu_st46 hn h (by omega) _
theorem pu_nt100 (n : Nat) {z : Nat} {L : Nat → Nat} {lt te : Nat → Int32} (h : relL z L lt te) (x : Int32) : ∀ (t i k : Nat), i + t = z → fX8_nextToken_100 n (nI z) te (k + t + 1) x (nI i) = some (x, nI (runS L smB t i)) := by
  have hz := h.1
  intro t
  induction t with
  | zero =>
    intro i k hi
    unfold fX8_nextToken_100 fX8_nextToken_204
    simp (disch := omega) only [Nat.zero_add, qa, qb, qbb, qc, qd, qe, qf, qg, Option.bind_some, reduceIte, or_false, false_or, or_self, or_true, true_or, and_true, true_and, and_false, false_and, not_true_eq_false, not_false_eq_true]
    rfl
  | succ t ih =>
    intro i k hi
    have E := ih (i + 1) k (by omega)
    obtain ⟨l1, -, l2⟩ := h.2 i (by omega)
    have s := pu_isLetter n l1
    have e : k + (t + 1) + 1 = (k + t + 1) + 1 := by omega
    rw [e]
    unfold fX8_nextToken_100 fX8_nextToken_204 runS
    by_cases c : smB (L i) = true
    · simp (disch := omega) only [Nat.zero_add, qa, qb, qbb, qc, qd, qe, qf, qg, Option.bind_some, reduceIte, or_false, false_or, or_self, or_true, true_or, and_true, true_and, and_false, false_and, not_true_eq_false, not_false_eq_true, l2, s, c]
      exact E
    · simp (disch := omega) only [Nat.zero_add, qa, qb, qbb, qc, qd, qe, qf, qg, Option.bind_some, reduceIte, or_false, false_or, or_self, or_true, true_or, and_true, true_and, and_false, false_and, not_true_eq_false, not_false_eq_true, l2, s, c, Bool.false_eq_true]
theorem pu_nt165 (n : Nat) {z : Nat} {L : Nat → Nat} {lt te : Nat → Int32} (h : relL z L lt te) (x : Int32) : ∀ (t i k : Nat), i + t = z → fX8_nextToken_165 n (nI z) te (k + t + 1) x (nI i) = some (x, nI (runS L dgB t i)) := by
  have hz := h.1
  intro t
  induction t with
  | zero =>
    intro i k hi
    unfold fX8_nextToken_165 fX8_nextToken_204
    simp (disch := omega) only [Nat.zero_add, qa, qb, qbb, qc, qd, qe, qf, qg, Option.bind_some, reduceIte, or_false, false_or, or_self, or_true, true_or, and_true, true_and, and_false, false_and, not_true_eq_false, not_false_eq_true]
    rfl
  | succ t ih =>
    intro i k hi
    have E := ih (i + 1) k (by omega)
    obtain ⟨l1, -, l2⟩ := h.2 i (by omega)
    have s := pu_isDigit8 n l1
    have e : k + (t + 1) + 1 = (k + t + 1) + 1 := by omega
    rw [e]
    unfold fX8_nextToken_165 fX8_nextToken_204 runS
    by_cases c : dgB (L i) = true
    · simp (disch := omega) only [Nat.zero_add, qa, qb, qbb, qc, qd, qe, qf, qg, Option.bind_some, reduceIte, or_false, false_or, or_self, or_true, true_or, and_true, true_and, and_false, false_and, not_true_eq_false, not_false_eq_true, l2, s, c]
      exact E
    · simp (disch := omega) only [Nat.zero_add, qa, qb, qbb, qc, qd, qe, qf, qg, Option.bind_some, reduceIte, or_false, false_or, or_self, or_true, true_or, and_true, true_and, and_false, false_and, not_true_eq_false, not_false_eq_true, l2, s, c, Bool.false_eq_true]
theorem runS_1 {L : Nat → Nat} {p : Nat → Bool} {z s : Nat} (hs : s < z) (h : p (L s) = true) : runS L p (z - s) s = runS L p (z - (s + 1)) (s + 1) := by
  obtain ⟨t, ht⟩ : ∃ t, z - s = t + 1 := ⟨z - s - 1, by omega⟩
  have h2 : z - (s + 1) = t := by omega
  rw [ht, h2]
  exact if_pos h
theorem pu_nt46 {n : Nat} (hn : 400 ≤ n) {z s : Nat} {L : Nat → Nat} {lt te : Nat → Int32} (h : relL z L lt te) (hs : s ≤ z) (x : Int32) : fX8_nextToken_46 n (nI z) te (nI s) x = some (nI s, nI (tkE L z s)) := by
  have hz := h.1
  unfold fX8_nextToken_46 fX8_nextToken_71 fX8_nextToken_139 fX8_nextToken_204 tkE
  by_cases c : s < z
  · obtain ⟨l1, -, l2⟩ := h.2 s c
    have d1 := pu_isLetter n l1
    have d2 := pu_isDigit8 n l1
    have e1 := pu_nt100 n h (nI s) (z - (s + 1)) (s + 1) (n - (z - (s + 1)) - 1) (by omega)
    have e2 := pu_nt165 n h (nI s) (z - (s + 1)) (s + 1) (n - (z - (s + 1)) - 1) (by omega)
    have en : n - (z - (s + 1)) - 1 + (z - (s + 1)) + 1 = n := by omega
    rw [en] at e1 e2
    rw [if_pos c]
    by_cases c1 : smB (L s) = true
    · rw [← runS_1 c c1] at e1
      simp (disch := omega) only [Nat.zero_add, qa, qb, qbb, qc, qd, qe, qf, qg, Option.bind_some, reduceIte, or_false, false_or, or_self, or_true, true_or, and_true, true_and, and_false, false_and, not_true_eq_false, not_false_eq_true, l2, d1, c1, e1]
    · by_cases c2 : dgB (L s) = true
      · rw [← runS_1 c c2] at e2
        simp (disch := omega) only [Nat.zero_add, qa, qb, qbb, qc, qd, qe, qf, qg, Option.bind_some, reduceIte, or_false, false_or, or_self, or_true, true_or, and_true, true_and, and_false, false_and, not_true_eq_false, not_false_eq_true, l2, d1, d2, c1, c2, e2, Bool.false_eq_true]
      · simp (disch := omega) only [Nat.zero_add, qa, qb, qbb, qc, qd, qe, qf, qg, Option.bind_some, reduceIte, or_false, false_or, or_self, or_true, true_or, and_true, true_and, and_false, false_and, not_true_eq_false, not_false_eq_true, l2, d1, d2, c1, c2, Bool.false_eq_true]
  · have : s = z := by omega
    subst this
    rw [if_neg c]
    simp (disch := omega) only [Nat.zero_add, qa, qb, qbb, qc, qd, qe, qf, qg, Option.bind_some, reduceIte, or_false, false_or, or_self, or_true, true_or, and_true, true_and, and_false, false_and, not_true_eq_false, not_false_eq_true]
theorem pu_nt8 (n : Nat) {z : Nat} {L : Nat → Nat} {lt te : Nat → Int32} (h : relL z L lt te) (x : Int32) : ∀ (t i k : Nat), i + t = z → fX8_nextToken_8 n (nI z) te (k + t + 1) (nI i) x = fX8_nextToken_46 n (nI z) te (nI (spS L t i)) x := by
  have hz := h.1
  intro t
  induction t with
  | zero =>
    intro i k hi
    unfold fX8_nextToken_8
    simp (disch := omega) only [Nat.zero_add, qa, qb, qbb, qc, qd, qe, qf, qg, Option.bind_some, reduceIte, or_false, false_or, or_self, or_true, true_or, and_true, true_and, and_false, false_and, not_true_eq_false, not_false_eq_true]
    rfl
  | succ t ih =>
    intro i k hi
    have E := ih (i + 1) k (by omega)
    obtain ⟨l1, -, l2⟩ := h.2 i (by omega)
    have e : k + (t + 1) + 1 = (k + t + 1) + 1 := by omega
    rw [e]
    unfold fX8_nextToken_8 spS
    by_cases c : L i = 32
    · rw [if_pos c]
      simp (disch := omega) only [Nat.zero_add, qa, qb, qbb, qc, qd, qe, qf, qg, Option.bind_some, reduceIte, or_false, false_or, or_self, or_true, true_or, and_true, true_and, and_false, false_and, not_true_eq_false, not_false_eq_true, l2]
      exact E
    · rw [if_neg c]
      simp (disch := omega) only [Nat.zero_add, qa, qb, qbb, qc, qd, qe, qf, qg, Option.bind_some, reduceIte, or_false, false_or, or_self, or_true, true_or, and_true, true_and, and_false, false_and, not_true_eq_false, not_false_eq_true, l2]
/-- the reference steps to the next token -/
theorem pu_step8 {n : Nat} (hn : 400 ≤ n) {z e : Nat} {L : Nat → Nat} {lt te : Nat → Int32} (h : relL z L lt te) (he : e ≤ z) (x : Int32) : fX8_nextToken n (nI z) te x (nI e) = some (nI (tkS L z e), nI (tkE L z (tkS L z e))) := by
  have hz := h.1
  have e1 := pu_nt8 n h (nI e) (z - e) e (n - (z - e) - 1) (by omega)
  have en : n - (z - e) - 1 + (z - e) + 1 = n := by omega
  rw [en] at e1
  obtain ⟨h1, h2⟩ := spS_b L (z - e) e
  unfold fX8_nextToken
  rw [e1]
  exact pu_nt46 hn h (by omega) _
