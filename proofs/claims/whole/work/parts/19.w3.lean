/-- all that a set leans on, by the first i FACTS -/
def aoS (al : Nat → Nat) (set : Nat) : Nat → Nat
  | 0 => 0
  | i + 1 => aoS al set i ||| (if set.testBit i = true then al i else 0)
theorem aoS_1 {al : Nat → Nat} {set i : Nat} (h : set.testBit i = true) : aoS al set (i + 1) = aoS al set i ||| al i := by
  show aoS al set i ||| (if set.testBit i = true then al i else 0) = _
  rw [if_pos h]
theorem aoS_0 {al : Nat → Nat} {set i : Nat} (h : ¬ set.testBit i = true) : aoS al set (i + 1) = aoS al set i := by
  show aoS al set i ||| (if set.testBit i = true then al i else 0) = _
  rw [if_neg h, Nat.or_zero]
theorem aoS_lt {al : Nat → Nat} {nf : Nat} (h : ∀ g, g < nf → al g < 2 ^ nf) (set : Nat) : ∀ i, i ≤ nf → aoS al set i < 2 ^ nf := by
  intro i
  induction i with
  | zero => intro _; exact Nat.pow_pos (by decide)
  | succ i ih =>
    intro hi
    by_cases c : set.testBit i = true
    · rw [aoS_1 c]; exact Nat.or_lt_two_pow (ih (by omega)) (h i (by omega))
    · rw [aoS_0 c]; exact ih (by omega)
theorem tb_ge {set nf i : Nat} (h : set < 2 ^ nf) (hi : nf ≤ i) : ¬ set.testBit i = true := by
  rw [Nat.testBit_lt_two_pow (Nat.lt_of_lt_of_le h (Nat.pow_le_pow_right (by decide) hi))]
  decide
theorem aoS_ge {al : Nat → Nat} {set nf : Nat} (h : set < 2 ^ nf) : ∀ t, aoS al set (nf + t) = aoS al set nf := by
  intro t
  induction t with
  | zero => rfl
  | succ t ih =>
    show aoS al set (nf + t + 1) = _
    rw [aoS_0 (tb_ge h (by omega)), ih]
theorem aoS_bit {al : Nat → Nat} {set : Nat} (ha : ∀ g, set.testBit g = true → (al g).testBit g = true) : ∀ (i j : Nat), j < i → set.testBit j = true → (aoS al set i).testBit j = true := by
  intro i
  induction i with
  | zero => intro j hj; exact absurd hj (Nat.not_lt_zero j)
  | succ i ih =>
    intro j hj hs
    by_cases e : j = i
    · subst e
      rw [aoS_1 hs, Nat.testBit_or, ha j hs, Bool.or_true]
    · have := ih j (by omega) hs
      by_cases c : set.testBit i = true
      · rw [aoS_1 c, Nat.testBit_or, this, Bool.true_or]
      · rw [aoS_0 c]; exact this
theorem aoS_or {al : Nat → Nat} {set nf : Nat} (h : set < 2 ^ nf) (ha : ∀ g, g < nf → (al g).testBit g = true) : set ||| aoS al set nf = aoS al set nf := by
  apply Nat.eq_of_testBit_eq
  intro j
  rw [Nat.testBit_or]
  by_cases c : set.testBit j = true
  · have hj : j < nf := bit_lt h c
    rw [aoS_bit (fun g hg => ha g (bit_lt h hg)) nf j hj c, Bool.or_true]
  · rw [Bool.eq_false_iff.mpr c, Bool.false_or]
theorem pu_ao7 {n : Nat} (hn : 400 ≤ n) {fal : Nat → Int32} {al : Nat → Nat} {nf set : Nat} (hnf : nf ≤ 12) (hf : ∀ g, g < nf → fal g = nI (al g)) (hs : set < 4096) : fX0_allOf n (nI nf) fal (nI set) = some (nI (aoS al set nf)) := by
  have key : ∀ (t i k : Nat), i + t = nf → fX0_allOf_4 n (nI nf) fal (k + t + 1) (nI set) (nI (aoS al set i)) (nI i) = some (nI (aoS al set nf)) := by
    intro t
    induction t with
    | zero =>
      intro i k hi
      have : i = nf := by omega
      subst this
      unfold fX0_allOf_4
      simp (disch := omega) only [Nat.zero_add, qa, qb, qbb, qc, qd, qe, qf, qg, Option.bind_some, reduceIte, or_false, false_or, or_self, or_true, true_or, and_true, true_and, and_false, false_and, not_true_eq_false, not_false_eq_true]
    | succ t ih =>
      intro i k hi
      have E := ih (i + 1) k (by omega)
      have h1 := hf i (by omega)
      have e : k + (t + 1) + 1 = (k + t + 1) + 1 := by omega
      rw [e]
      unfold fX0_allOf_4 fX0_allOf_29
      by_cases c : set.testBit i = true
      · rw [aoS_1 c] at E
        simp (disch := omega) only [Nat.zero_add, qa, qb, qbb, qc, qd, qe, qf, qg, Option.bind_some, reduceIte, or_false, false_or, or_self, or_true, true_or, and_true, true_and, and_false, false_and, not_true_eq_false, not_false_eq_true, c, h1]
        exact E
      · rw [aoS_0 c] at E
        simp (disch := omega) only [Nat.zero_add, qa, qb, qbb, qc, qd, qe, qf, qg, Option.bind_some, reduceIte, or_false, false_or, or_self, or_true, true_or, and_true, true_and, and_false, false_and, not_true_eq_false, not_false_eq_true, c, Bool.false_eq_true]
        exact E
  have h := key nf 0 (n - nf - 1) (by omega)
  have e : n - nf - 1 + nf + 1 = n := by omega
  rw [e] at h
  exact h
theorem pu_ao8 {n : Nat} (hn : 400 ≤ n) {row : Nat → Int32} {al : Nat → Nat} {nf set : Nat} (hnf : nf ≤ 12) (hf : ∀ g, g < nf → row (84 + g) = nI (al g)) (ha : ∀ g, g < nf → (al g).testBit g = true) (hs : set < 2 ^ nf) : fX8_allOf n row (nI 48) (nI set) = some (nI (aoS al set nf)) := by
  have hs4 := lt4096 hnf hs
  have key : ∀ (t i k : Nat), i + t = 12 → fX8_allOf_5 n row (k + t + 1) (nI 48) (nI set) (nI (set ||| aoS al set i)) (nI i) = some (nI (set ||| aoS al set 12)) := by
    intro t
    induction t with
    | zero =>
      intro i k hi
      have : i = 12 := by omega
      subst this
      unfold fX8_allOf_5
      simp (disch := omega) only [Nat.zero_add, qa, qb, qbb, qc, qd, qe, qf, qg, Option.bind_some, reduceIte, or_false, false_or, or_self, or_true, true_or, and_true, true_and, and_false, false_and, not_true_eq_false, not_false_eq_true]
    | succ t ih =>
      intro i k hi
      have E := ih (i + 1) k (by omega)
      have e : k + (t + 1) + 1 = (k + t + 1) + 1 := by omega
      rw [e]
      unfold fX8_allOf_5 fX8_allOf_38
      by_cases c : set.testBit i = true
      · have h1 : row (48 + 36 + i) = nI (al i) := hf i (bit_lt hs c)
        rw [aoS_1 c, ← Nat.or_assoc] at E
        simp (disch := omega) only [Nat.zero_add, qa, qb, qbb, qc, qd, qe, qf, qg, Option.bind_some, reduceIte, or_false, false_or, or_self, or_true, true_or, and_true, true_and, and_false, false_and, not_true_eq_false, not_false_eq_true, c, h1]
        exact E
      · rw [aoS_0 c] at E
        simp (disch := omega) only [Nat.zero_add, qa, qb, qbb, qc, qd, qe, qf, qg, Option.bind_some, reduceIte, or_false, false_or, or_self, or_true, true_or, and_true, true_and, and_false, false_and, not_true_eq_false, not_false_eq_true, c, Bool.false_eq_true, Nat.or_zero]
        exact E
  have h := key 12 0 (n - 13) (by omega)
  have e : n - 13 + 12 + 1 = n := by omega
  have e2 : aoS al set 12 = aoS al set nf := by
    have := aoS_ge (al := al) hs (12 - nf)
    rw [show nf + (12 - nf) = 12 by omega] at this
    exact this
  have e3 : set ||| aoS al set 0 = set := Nat.or_zero set
  rw [e, e2, e3, aoS_or hs ha] at h
  exact h
/-- the class's facts -/
def relFC (nf : Nat) (le al : Nat → Nat) (fle fal flo : Nat → Int32) : Prop := (∀ g, g < nf → fle g = nI (le g) ∧ fal g = nI (al g)) ∧ fctC flo nf al
theorem pu_add_loop (n : Nat) {fle fal : Nat → Int32} {nf a : Nat} (hnf : nf < 12) (ha : a < 4096) (hfa : fal nf = nI a) : ∀ (t g k : Nat) (lw : Nat → Int32), g + t = nf →
    ∃ lw', fX0_add_55 n (k + t + 1) fle fal lw (nI nf) (nI (2 ^ nf)) (nI g) = some (fle, fal, lw', nI (nf + 1)) ∧ ∀ f, lw' f = if g ≤ f ∧ f < nf ∧ a.testBit f = true then lw f ||| nI (2 ^ nf) else lw f := by
  intro t
  induction t with
  | zero =>
    intro g k lw hg
    refine ⟨lw, ?_, fun f => (if_neg (fun q => by omega)).symm⟩
    unfold fX0_add_55
    simp (disch := omega) only [Nat.zero_add, qa, qb, qbb, qc, qd, qe, qf, qg, Option.bind_some, reduceIte, or_false, false_or, or_self, or_true, true_or, and_true, true_and, and_false, false_and, not_true_eq_false, not_false_eq_true]
  | succ t ih =>
    intro g k lw hg
    have e : k + (t + 1) + 1 = (k + t + 1) + 1 := by omega
    rw [e]
    by_cases c : a.testBit g = true
    · obtain ⟨lw', E, h⟩ := ih (g + 1) k (upd lw g (lw g ||| nI (2 ^ nf))) (by omega)
      refine ⟨lw', ?_, fun f => ?_⟩
      · unfold fX0_add_55 fX0_add_89
        simp (disch := omega) only [Nat.zero_add, qa, qb, qbb, qc, qd, qe, qf, qg, Option.bind_some, reduceIte, or_false, false_or, or_self, or_true, true_or, and_true, true_and, and_false, false_and, not_true_eq_false, not_false_eq_true, hfa, c]
        exact E
      · rw [h f]
        by_cases e2 : f = g
        · rw [if_neg (fun q => by omega), if_pos ⟨by omega, by omega, by rw [e2]; exact c⟩, e2, upd_at]
        · rw [upd_ne _ _ e2]
          by_cases d : g ≤ f ∧ f < nf ∧ a.testBit f = true
          · rw [if_pos d, if_pos ⟨by omega, d.2⟩]
          · rw [if_neg d, if_neg (fun q => d ⟨by omega, q.2⟩)]
    · obtain ⟨lw', E, h⟩ := ih (g + 1) k lw (by omega)
      refine ⟨lw', ?_, fun f => ?_⟩
      · unfold fX0_add_55 fX0_add_89
        simp (disch := omega) only [Nat.zero_add, qa, qb, qbb, qc, qd, qe, qf, qg, Option.bind_some, reduceIte, or_false, false_or, or_self, or_true, true_or, and_true, true_and, and_false, false_and, not_true_eq_false, not_false_eq_true, hfa, c, Bool.false_eq_true]
        exact E
      · rw [h f]
        by_cases d : g ≤ f ∧ f < nf ∧ a.testBit f = true
        · have : f ≠ g := fun e2 => c (by rw [← e2]; exact d.2.2)
          rw [if_pos d, if_pos ⟨by omega, d.2⟩]
        · rw [if_neg d, if_neg (fun q => d ⟨by omega, q.2⟩)]
theorem okF_add {nf set : Nat} {le al : Nat → Nat} (o : okF nf le al) (hnf : nf < 12) (hs : set < 2 ^ nf) : okF (nf + 1) (updN le nf set) (updN al nf (aoS al set nf ||| 2 ^ nf)) := by
  have ha := aoS_lt (al := al) (fun g hg => al_lt o hg) set nf (Nat.le_refl _)
  have h2 : 2 ^ nf < 2 ^ (nf + 1) := Nat.pow_lt_pow_right (by decide) (by omega)
  refine ⟨hnf, fun g hg => ?_⟩
  by_cases e : g = nf
  · subst e
    rw [updN_at, updN_at]
    refine ⟨hs, Nat.or_lt_two_pow (by omega) h2, ?_⟩
    rw [Nat.testBit_or, Nat.testBit_two_pow]
    simp
  · rw [updN_ne _ _ e, updN_ne _ _ e]
    exact o.2 g (by omega)
/-- the class adds a fact -/
theorem pu_add {n : Nat} (hn : 400 ≤ n) {fle fal flo : Nat → Int32} {le al : Nat → Nat} {nf set : Nat} (o : okF nf le al) (hnf : nf < 12) (h : relFC nf le al fle fal flo) (hs : set < 2 ^ nf) :
    ∃ fle' fal' flo', fX0_add n fle fal flo (nI nf) (nI set) = some (fle', fal', flo', nI (nf + 1)) ∧ relFC (nf + 1) (updN le nf set) (updN al nf (aoS al set nf ||| 2 ^ nf)) fle' fal' flo' := by
  have hs4 := lt4096 o.1 hs
  have ha := aoS_lt (al := al) (fun g hg => al_lt o hg) set nf (Nat.le_refl _)
  have h2 : 2 ^ nf < 2 ^ 12 := Nat.pow_lt_pow_right (by decide) hnf
  have ha2 : aoS al set nf ||| 2 ^ nf < 4096 := Nat.or_lt_two_pow (n := 12) (by omega) h2
  have e1 := pu_ao7 hn (set := set) o.1 (fun g hg => (h.1 g hg).2) hs4
  obtain ⟨lw', E, hl⟩ := pu_add_loop n (fle := upd fle nf (nI set)) (fal := upd fal nf (nI (aoS al set nf ||| 2 ^ nf))) hnf ha2 (upd_at _ _ _) nf 0 (n - nf - 1) (upd flo nf (nI (2 ^ nf))) (by omega)
  have en : n - nf - 1 + nf + 1 = n := by omega
  rw [en] at E
  refine ⟨upd fle nf (nI set), upd fal nf (nI (aoS al set nf ||| 2 ^ nf)), lw', ?_, fun g hg => ?_, fun f hf => ?_⟩
  rotate_left
  · by_cases e : g = nf
    · subst e
      rw [upd_at, upd_at, updN_at, updN_at]
      exact ⟨rfl, rfl⟩
    · rw [upd_ne _ _ e, upd_ne _ _ e, updN_ne _ _ e, updN_ne _ _ e]
      exact h.1 g (by omega)
  · rw [hl f]
    by_cases e : f = nf
    · subst e
      refine ⟨2 ^ f, by omega, ?_, fun i hi => ?_⟩
      · rw [if_neg (fun q => by omega), upd_at]
      · rw [Nat.testBit_two_pow]
        by_cases c : f = i
        · subst c
          rw [updN_at, Nat.testBit_or, Nat.testBit_two_pow]
          simp
        · by_cases d : i < f + 1
          · have hi2 : i < f := by omega
            have h3 := o.2 i hi2
            have h4 : al i < 2 ^ f := al_lt o hi2
            rw [updN_ne _ _ (by omega), Nat.testBit_lt_two_pow h4]
            simp [c]
          · simp [c, d]
    · have hf2 : f < nf := by omega
      obtain ⟨w, w1, w2, w3⟩ := h.2 f hf2
      rw [upd_ne _ _ e]
      by_cases c : (aoS al set nf ||| 2 ^ nf).testBit f = true
      · rw [if_pos ⟨Nat.zero_le _, hf2, c⟩, w2, pu_or]
        refine ⟨w ||| 2 ^ nf, Nat.or_lt_two_pow (n := 12) w1 h2, rfl, fun i hi => ?_⟩
        rw [Nat.testBit_or, Nat.testBit_two_pow, w3 i hi]
        by_cases d : i = nf
        · subst d
          rw [updN_at, c]
          simp
        · rw [updN_ne _ _ d]
          have e2 : (i < nf + 1) ↔ (i < nf) := by omega
          simp [e2, Ne.symm d]
      · rw [if_neg (fun q => c q.2.2), w2]
        refine ⟨w, w1, rfl, fun i hi => ?_⟩
        rw [w3 i hi]
        by_cases d : i = nf
        · subst d
          rw [updN_at, Bool.eq_false_iff.mpr c]
          simp
        · rw [updN_ne _ _ d]
          have e2 : (i < nf + 1) ↔ (i < nf) := by omega
          simp [e2]
  · unfold fX0_add
    simp (disch := omega) only [Nat.zero_add, qa, qb, qbb, qc, qd, qe, qf, qg, Option.bind_some, reduceIte, or_false, false_or, or_self, or_true, true_or, and_true, true_and, and_false, false_and, not_true_eq_false, not_false_eq_true, e1]
    exact E
