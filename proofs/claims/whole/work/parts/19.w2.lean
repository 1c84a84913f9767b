/-- the set that letters name, one more; 0 if it can't stand -/
def fsS (L : Nat → Nat) (nf : Nat) : Nat → Nat → Nat → Nat → Nat
  | 0, _, _, set => set + 1
  | t + 1, i, last, set => if last < L i ∧ L i < 97 + nf then fsS L nf t (i + 1) (L i) (set ||| 2 ^ (L i - 97)) else 0
theorem fsS_s (L : Nat → Nat) (nf t i last set : Nat) : fsS L nf (t + 1) i last set = if last < L i ∧ L i < 97 + nf then fsS L nf t (i + 1) (L i) (set ||| 2 ^ (L i - 97)) else 0 := rfl
theorem fsS_le (L : Nat → Nat) (nf : Nat) : ∀ (t i last set : Nat), (∀ j, i ≤ j → j < i + t → 97 ≤ L j) → set < 2 ^ nf → fsS L nf t i last set ≤ 2 ^ nf := by
  intro t
  induction t with
  | zero => intro i last set _ h; exact h
  | succ t ih =>
    intro i last set hs h
    rw [fsS_s]
    by_cases c : last < L i ∧ L i < 97 + nf
    · rw [if_pos c]
      exact ih (i + 1) (L i) _ (fun j h1 h2 => hs j (by omega) (by omega)) (Nat.or_lt_two_pow h (Nat.pow_lt_pow_right (by decide) (by have := hs i (by omega) (by omega); omega)))
    · rw [if_neg c]; exact Nat.zero_le _
/-- the set at a token -/
def stS (L : Nat → Nat) (z nf a b : Nat) : Nat := if a < z ∧ smB (L a) = true then fsS L nf (b - a) a 96 0 else 1
theorem pu_sos_loop {n : Nat} (hn : 400 ≤ n) {z a b nf : Nat} {L : Nat → Nat} {lt te : Nat → Int32} (h : relL z L lt te) (hb : b ≤ z) (hnf : nf ≤ 12) (hsm : ∀ j, a ≤ j → j < b → smB (L j) = true) : ∀ (t i k last set : Nat), i + t = b → a ≤ i → 96 ≤ last → last ≤ 122 → set < 2 ^ (last - 96) → (96 < last → 2 ^ (last - 97) ≤ set) → set < 2 ^ nf →
    fX6_stepOverSet_20 n (nI z) lt (nI nf) (k + t + 1) (nI a) (nI b) (nI set) (nI i) = if fsS L nf t i last set = 0 then some (onI 0, nI a, nI b) else some (nI (fsS L nf t i last set - 1), nI (tkS L z b), nI (tkE L z (tkS L z b))) := by
  obtain ⟨hz, hl⟩ := id h
  intro t
  induction t with
  | zero =>
    intro i k last set hi ha h1 h2 h3 h4 h5
    have E := pu_step7 hn h hb (nI a)
    have e0 : fsS L nf 0 i last set = set + 1 := rfl
    rw [e0, if_neg (Nat.succ_ne_zero set), Nat.add_sub_cancel]
    unfold fX6_stepOverSet_20
    simp (disch := omega) only [Nat.zero_add, qa, qb, qbb, qc, qd, qe, qf, qg, Option.bind_some, reduceIte, or_false, false_or, or_self, or_true, true_or, and_true, true_and, and_false, false_and, not_true_eq_false, not_false_eq_true, E]
  | succ t ih =>
    intro i k last set hi ha h1 h2 h3 h4 h5
    obtain ⟨l1, l2, -⟩ := hl i (by omega)
    have sm := smB_i (hsm i ha (by omega))
    have hp : 2 ^ nf ≤ 2 ^ 12 := Nat.pow_le_pow_right (by decide) hnf
    have hq : 2 ^ (L i - 97) ≤ 2 ^ 25 := Nat.pow_le_pow_right (by decide) (by omega)
    have e : k + (t + 1) + 1 = (k + t + 1) + 1 := by omega
    rw [e, fsS_s]
    unfold fX6_stepOverSet_20 fX6_stepOverSet_50 fX6_stepOverSet_68
    by_cases c1 : last < L i
    · have c2 : ¬ 2 ^ (L i - 97) ≤ set := by
        have : 2 ^ (last - 96) ≤ 2 ^ (L i - 97) := Nat.pow_le_pow_right (by decide) (by omega)
        omega
      by_cases c3 : L i < 97 + nf
      · have g := inG_1 (show L i - 97 < nf by omega) (show nf < 2147483648 by omega)
        have c4 : set ||| 2 ^ (L i - 97) < 2 ^ (L i - 96) := by
          have e1 : 2 ^ (L i - 96) = 2 ^ (L i - 97) * 2 := by rw [← Nat.pow_succ]; congr 1; omega
          have e2 : set < 2 ^ (L i - 96) := by omega
          have e3 : 2 ^ (L i - 97) < 2 ^ (L i - 96) := by have : 0 < 2 ^ (L i - 97) := Nat.pow_pos (by decide); omega
          exact Nat.or_lt_two_pow e2 e3
        have E := ih (i + 1) k (L i) (set ||| 2 ^ (L i - 97)) (by omega) (by omega) (by omega) (by omega) c4 (fun _ => Nat.right_le_or) (Nat.or_lt_two_pow h5 (Nat.pow_lt_pow_right (by decide) (by omega)))
        rw [if_pos (show last < L i ∧ L i < 97 + nf from ⟨c1, c3⟩)]
        simp (disch := omega) only [Nat.zero_add, qa, qb, qbb, qc, qd, qe, qf, qg, Option.bind_some, reduceIte, or_false, false_or, or_self, or_true, true_or, and_true, true_and, and_false, false_and, not_true_eq_false, not_false_eq_true, l2, g]
        exact E
      · have g : inG (nI (L i - 97)) nf = nI 0 := if_pos (Or.inr (nI_le (by omega) (by omega)))
        rw [if_neg (show ¬ (last < L i ∧ L i < 97 + nf) from fun q => c3 q.2), if_pos (show (0 : Nat) = 0 from rfl)]
        simp (disch := omega) only [Nat.zero_add, qa, qb, qbb, qc, qd, qe, qf, qg, Option.bind_some, reduceIte, or_false, false_or, or_self, or_true, true_or, and_true, true_and, and_false, false_and, not_true_eq_false, not_false_eq_true, l2, g]
    · have c2 : 2 ^ (L i - 97) ≤ set := by
        have : 2 ^ (L i - 97) ≤ 2 ^ (last - 97) := Nat.pow_le_pow_right (by decide) (by omega)
        have := h4 (by omega)
        omega
      rw [if_neg (show ¬ (last < L i ∧ L i < 97 + nf) from fun q => c1 q.1), if_pos (show (0 : Nat) = 0 from rfl)]
      rcases inG_cas (nI (L i - 97)) (N := nf) (by omega) with g | ⟨m, -, -, g⟩
      · simp (disch := omega) only [Nat.zero_add, qa, qb, qbb, qc, qd, qe, qf, qg, Option.bind_some, reduceIte, or_false, false_or, or_self, or_true, true_or, and_true, true_and, and_false, false_and, not_true_eq_false, not_false_eq_true, l2, g]
      · simp (disch := omega) only [Nat.zero_add, qa, qb, qbb, qc, qd, qe, qf, qg, Option.bind_some, reduceIte, or_false, false_or, or_self, or_true, true_or, and_true, true_and, and_false, false_and, not_true_eq_false, not_false_eq_true, l2, g]
/-- the class: the set at a token -/
theorem pu_sos {n : Nat} (hn : 400 ≤ n) {z a b nf : Nat} {L : Nat → Nat} {lt te : Nat → Int32} (h : relL z L lt te) (hT : isTk L z a b) (hnf : nf ≤ 12) :
    fX6_stepOverSet n (nI z) lt (nI nf) (nI a) (nI b) = if a < z ∧ smB (L a) = true then (if stS L z nf a b = 0 then some (onI 0, nI a, nI b) else some (nI (stS L z nf a b - 1), nI (tkS L z b), nI (tkE L z (tkS L z b)))) else some (nI (stS L z nf a b - 1), nI a, nI b) := by
  obtain ⟨t1, t2, t3, t4, t5⟩ := hT
  have hz := h.1
  unfold fX6_stepOverSet stS
  by_cases c : a < z ∧ smB (L a) = true
  · have s := pu_isSmall n h c.1
    have E := pu_sos_loop hn h t3 hnf (t5 c.1 c.2) (b - a) a (n - (b - a) - 1) 96 0 (by omega) (Nat.le_refl _) (by omega) (by omega) (by decide) (fun q => absurd q (by omega)) (Nat.pow_pos (by decide))
    have en : n - (b - a) - 1 + (b - a) + 1 = n := by omega
    rw [en] at E
    rw [if_pos c, if_pos c]
    rw [if_pos c.2] at s
    simp (disch := omega) only [Nat.zero_add, qa, qb, qbb, qc, qd, qe, qf, qg, Option.bind_some, reduceIte, or_false, false_or, or_self, or_true, true_or, and_true, true_and, and_false, false_and, not_true_eq_false, not_false_eq_true, s]
    exact E
  · rw [if_neg c, if_neg c]
    have s : fX6_isSmall n (nI z) lt (nI a) = some (nI 0) := by
      by_cases d : a < z
      · rw [pu_isSmall n h d, if_neg (fun q => c ⟨d, q⟩)]
      · have : a = z := by omega
        subst this
        exact pu_isSmallz n a lt hz
    simp (disch := omega) only [Nat.zero_add, qa, qb, qbb, qc, qd, qe, qf, qg, Option.bind_some, reduceIte, or_false, false_or, or_self, or_true, true_or, and_true, true_and, and_false, false_and, not_true_eq_false, not_false_eq_true, s]
theorem pu_fa8_loop {n : Nat} (hn : 400 ≤ n) {z a b nf : Nat} {L : Nat → Nat} {lt te : Nat → Int32} (h : relL z L lt te) (hb : b ≤ z) (hnf : nf ≤ 12) (hsm : ∀ j, a ≤ j → j < b → smB (L j) = true) : ∀ (t i k last set : Nat), i + t = b → a ≤ i → last ≤ 122 →
    fX8_facts_41 n (nI z) te (nI nf) (k + t + 2) (nI a) (nI b) (nI set) (nI 1) (nI last) (nI i) = if fsS L nf t i last set = 0 then some (onI 0, nI a, nI b) else some (nI (fsS L nf t i last set - 1), nI (tkS L z b), nI (tkE L z (tkS L z b))) := by
  obtain ⟨hz, hl⟩ := id h
  have zr : ∀ (k : Nat) (v1 v3 v4 : Int32), fX8_facts_41 n (nI z) te (nI nf) (k + 1) (nI a) (nI b) v1 (nI 0) v3 v4 = some (onI 0, nI a, nI b) := by
    intro k v1 v3 v4
    unfold fX8_facts_41 fX8_facts_125
    by_cases c : nI b ≤ v4
    · simp (disch := omega) only [Nat.zero_add, qa, qb, qbb, qc, qd, qe, qf, qg, Option.bind_some, reduceIte, or_false, false_or, or_self, or_true, true_or, and_true, true_and, and_false, false_and, not_true_eq_false, not_false_eq_true, c]
    · simp (disch := omega) only [Nat.zero_add, qa, qb, qbb, qc, qd, qe, qf, qg, Option.bind_some, reduceIte, or_false, false_or, or_self, or_true, true_or, and_true, true_and, and_false, false_and, not_true_eq_false, not_false_eq_true, c]
  intro t
  induction t with
  | zero =>
    intro i k last set hi ha h2
    have E := pu_step8 hn h hb (nI a)
    have e0 : fsS L nf 0 i last set = set + 1 := rfl
    rw [e0, if_neg (Nat.succ_ne_zero set), Nat.add_sub_cancel]
    unfold fX8_facts_41 fX8_facts_125
    simp (disch := omega) only [Nat.zero_add, qa, qb, qbb, qc, qd, qe, qf, qg, Option.bind_some, reduceIte, or_false, false_or, or_self, or_true, true_or, and_true, true_and, and_false, false_and, not_true_eq_false, not_false_eq_true, E]
  | succ t ih =>
    intro i k last set hi ha h2
    obtain ⟨l1, -, l2⟩ := hl i (by omega)
    have sm := smB_i (hsm i ha (by omega))
    have hq : 2 ^ (L i - 97) ≤ 2 ^ 25 := Nat.pow_le_pow_right (by decide) (by omega)
    have Z := zr (k + t + 1)
    have e : k + (t + 1) + 2 = (k + t + 2) + 1 := by omega
    rw [e, fsS_s]
    unfold fX8_facts_41 fX8_facts_86 fX8_facts_87 fX8_facts_117
    by_cases c1 : last < L i
    · by_cases c3 : L i < 97 + nf
      · have E := ih (i + 1) k (L i) (set ||| 2 ^ (L i - 97)) (by omega) (by omega) (by omega)
        rw [if_pos (show last < L i ∧ L i < 97 + nf from ⟨c1, c3⟩)]
        simp (disch := omega) only [Nat.zero_add, qa, qb, qbb, qc, qd, qe, qf, qg, Option.bind_some, reduceIte, or_false, false_or, or_self, or_true, true_or, and_true, true_and, and_false, false_and, not_true_eq_false, not_false_eq_true, l2]
        exact E
      · rw [if_neg (show ¬ (last < L i ∧ L i < 97 + nf) from fun q => c3 q.2), if_pos (show (0 : Nat) = 0 from rfl)]
        simp (disch := omega) only [Nat.zero_add, qa, qb, qbb, qc, qd, qe, qf, qg, Option.bind_some, reduceIte, or_false, false_or, or_self, or_true, true_or, and_true, true_and, and_false, false_and, not_true_eq_false, not_false_eq_true, l2]
        exact Z _ _ _
    · rw [if_neg (show ¬ (last < L i ∧ L i < 97 + nf) from fun q => c1 q.1), if_pos (show (0 : Nat) = 0 from rfl)]
      simp (disch := omega) only [Nat.zero_add, qa, qb, qbb, qc, qd, qe, qf, qg, Option.bind_some, reduceIte, or_false, false_or, or_self, or_true, true_or, and_true, true_and, and_false, false_and, not_true_eq_false, not_false_eq_true, l2]
      exact Z _ _ _
/-- the reference: the set at a token -/
theorem pu_fa8 {n : Nat} (hn : 400 ≤ n) {z a b nf : Nat} {L : Nat → Nat} {lt te : Nat → Int32} (h : relL z L lt te) (hT : isTk L z a b) (hnf : nf ≤ 12) :
    fX8_facts n (nI z) te (nI nf) (nI a) (nI b) = if a < z ∧ smB (L a) = true then (if stS L z nf a b = 0 then some (onI 0, nI a, nI b) else some (nI (stS L z nf a b - 1), nI (tkS L z b), nI (tkE L z (tkS L z b)))) else some (nI (stS L z nf a b - 1), nI a, nI b) := by
  obtain ⟨t1, t2, t3, t4, t5⟩ := hT
  have hz := h.1
  unfold fX8_facts fX8_facts_26 stS
  by_cases c : a < z ∧ smB (L a) = true
  · obtain ⟨l1, -, l2⟩ := h.2 a c.1
    have s := pu_isLetter n l1
    have E := pu_fa8_loop hn h t3 hnf (t5 c.1 c.2) (b - a) a (n - (b - a) - 2) 96 0 (by omega) (Nat.le_refl _) (by omega)
    have en : n - (b - a) - 2 + (b - a) + 2 = n := by omega
    rw [en] at E
    rw [if_pos c.2] at s
    have ca := c.1
    rw [if_pos c, if_pos c]
    simp (disch := omega) only [Nat.zero_add, qa, qb, qbb, qc, qd, qe, qf, qg, Option.bind_some, reduceIte, or_false, false_or, or_self, or_true, true_or, and_true, true_and, and_false, false_and, not_true_eq_false, not_false_eq_true, s, l2]
    exact E
  · rw [if_neg c, if_neg c]
    by_cases d : a < z
    · obtain ⟨l1, -, l2⟩ := h.2 a d
      have s := pu_isLetter n l1
      rw [if_neg (fun q => c ⟨d, q⟩)] at s
      simp (disch := omega) only [Nat.zero_add, qa, qb, qbb, qc, qd, qe, qf, qg, Option.bind_some, reduceIte, or_false, false_or, or_self, or_true, true_or, and_true, true_and, and_false, false_and, not_true_eq_false, not_false_eq_true, s, l2]
    · have : a = z := by omega
      subst this
      simp (disch := omega) only [Nat.zero_add, qa, qb, qbb, qc, qd, qe, qf, qg, Option.bind_some, reduceIte, or_false, false_or, or_self, or_true, true_or, and_true, true_and, and_false, false_and, not_true_eq_false, not_false_eq_true]
/-- the number at a token, one more; 0 if it can't stand -/
def nbS (L : Nat → Nat) (z bd a b : Nat) : Nat := if b - a = 1 ∧ a < z ∧ dgB (L a) = true ∧ L a - 48 < bd then L a - 48 + 1 else 0
theorem nbS_le (L : Nat → Nat) (z bd a b : Nat) : nbS L z bd a b ≤ bd := by
  unfold nbS
  split
  · omega
  · exact Nat.zero_le _
theorem pu_nb7 (n : Nat) {z a b bd : Nat} {L : Nat → Nat} {lt te : Nat → Int32} (h : relL z L lt te) (hT : isTk L z a b) (hbd : bd ≤ 5) : fX6_numberBelow n (nI b) (nI a) (nI z) lt (nI bd) = some (onI (nbS L z bd a b)) := by
  obtain ⟨t1, t2, t3, t4, t5⟩ := hT
  have hz := h.1
  unfold fX6_numberBelow fX6_numberBelow_24 fX6_numberBelow_49 nbS
  by_cases c1 : b - a = 1
  · by_cases c2 : a < z
    · have s := pu_isDigit7 n h c2
      obtain ⟨l1, l2, -⟩ := h.2 a c2
      by_cases c3 : dgB (L a) = true
      · have d := dgB_i c3
        rw [if_pos c3] at s
        by_cases c4 : L a - 48 < bd
        · rw [if_pos (show b - a = 1 ∧ a < z ∧ dgB (L a) = true ∧ L a - 48 < bd from ⟨c1, c2, c3, c4⟩)]
          simp (disch := omega) only [Nat.zero_add, qa, qb, qbb, qc, qd, qe, qf, qg, Option.bind_some, reduceIte, or_false, false_or, or_self, or_true, true_or, and_true, true_and, and_false, false_and, not_true_eq_false, not_false_eq_true, c1, s, l2]
        · rw [if_neg (show ¬ (b - a = 1 ∧ a < z ∧ dgB (L a) = true ∧ L a - 48 < bd) from fun q => c4 q.2.2.2)]
          simp (disch := omega) only [Nat.zero_add, qa, qb, qbb, qc, qd, qe, qf, qg, Option.bind_some, reduceIte, or_false, false_or, or_self, or_true, true_or, and_true, true_and, and_false, false_and, not_true_eq_false, not_false_eq_true, c1, s, l2]
      · rw [if_neg c3] at s
        rw [if_neg (show ¬ (b - a = 1 ∧ a < z ∧ dgB (L a) = true ∧ L a - 48 < bd) from fun q => c3 q.2.2.1)]
        simp (disch := omega) only [Nat.zero_add, qa, qb, qbb, qc, qd, qe, qf, qg, Option.bind_some, reduceIte, or_false, false_or, or_self, or_true, true_or, and_true, true_and, and_false, false_and, not_true_eq_false, not_false_eq_true, c1, s]
    · have : a = z := by omega
      omega
  · rw [if_neg (show ¬ (b - a = 1 ∧ a < z ∧ dgB (L a) = true ∧ L a - 48 < bd) from fun q => c1 q.1)]
    simp (disch := omega) only [Nat.zero_add, qa, qb, qbb, qc, qd, qe, qf, qg, Option.bind_some, reduceIte, or_false, false_or, or_self, or_true, true_or, and_true, true_and, and_false, false_and, not_true_eq_false, not_false_eq_true]
theorem pu_nb8 {n : Nat} (hn : 400 ≤ n) {z a b bd : Nat} {L : Nat → Nat} {lt te : Nat → Int32} (h : relL z L lt te) (hT : isTk L z a b) (hbd : bd ≤ 5) : fX8_number n (nI z) te (nI a) (nI b) (nI bd) = if nbS L z bd a b = 0 then some (onI 0, nI a, nI b) else some (nI (nbS L z bd a b - 1), nI (tkS L z b), nI (tkE L z (tkS L z b))) := by
  obtain ⟨t1, t2, t3, t4, t5⟩ := hT
  have hz := h.1
  unfold fX8_number fX8_number_59 fX8_number_60 nbS
  by_cases c2 : a < z
  · obtain ⟨l1, -, l2⟩ := h.2 a c2
    have s := pu_isDigit8 n l1
    by_cases c3 : dgB (L a) = true
    · have d := dgB_i c3
      rw [if_pos c3] at s
      by_cases c1 : b - a = 1
      · by_cases c4 : L a - 48 < bd
        · have E := pu_step8 hn h t3 (nI a)
          rw [if_pos (show b - a = 1 ∧ a < z ∧ dgB (L a) = true ∧ L a - 48 < bd from ⟨c1, c2, c3, c4⟩), if_neg (show ¬ L a - 48 + 1 = 0 from Nat.succ_ne_zero _), Nat.add_sub_cancel]
          simp (disch := omega) only [Nat.zero_add, qa, qb, qbb, qc, qd, qe, qf, qg, Option.bind_some, reduceIte, or_false, false_or, or_self, or_true, true_or, and_true, true_and, and_false, false_and, not_true_eq_false, not_false_eq_true, c1, s, l2, E]
        · rw [if_neg (show ¬ (b - a = 1 ∧ a < z ∧ dgB (L a) = true ∧ L a - 48 < bd) from fun q => c4 q.2.2.2), if_pos (show (0 : Nat) = 0 from rfl)]
          simp (disch := omega) only [Nat.zero_add, qa, qb, qbb, qc, qd, qe, qf, qg, Option.bind_some, reduceIte, or_false, false_or, or_self, or_true, true_or, and_true, true_and, and_false, false_and, not_true_eq_false, not_false_eq_true, c1, s, l2]
      · rw [if_neg (show ¬ (b - a = 1 ∧ a < z ∧ dgB (L a) = true ∧ L a - 48 < bd) from fun q => c1 q.1), if_pos (show (0 : Nat) = 0 from rfl)]
        simp (disch := omega) only [Nat.zero_add, qa, qb, qbb, qc, qd, qe, qf, qg, Option.bind_some, reduceIte, or_false, false_or, or_self, or_true, true_or, and_true, true_and, and_false, false_and, not_true_eq_false, not_false_eq_true, s, l2]
    · rw [if_neg c3] at s
      rw [if_neg (show ¬ (b - a = 1 ∧ a < z ∧ dgB (L a) = true ∧ L a - 48 < bd) from fun q => c3 q.2.2.1), if_pos (show (0 : Nat) = 0 from rfl)]
      simp (disch := omega) only [Nat.zero_add, qa, qb, qbb, qc, qd, qe, qf, qg, Option.bind_some, reduceIte, or_false, false_or, or_self, or_true, true_or, and_true, true_and, and_false, false_and, not_true_eq_false, not_false_eq_true, s, l2]
  · rw [if_neg (show ¬ (b - a = 1 ∧ a < z ∧ dgB (L a) = true ∧ L a - 48 < bd) from fun q => c2 q.2.1), if_pos (show (0 : Nat) = 0 from rfl)]
    simp (disch := omega) only [Nat.zero_add, qa, qb, qbb, qc, qd, qe, qf, qg, Option.bind_some, reduceIte, or_false, false_or, or_self, or_true, true_or, and_true, true_and, and_false, false_and, not_true_eq_false, not_false_eq_true]
