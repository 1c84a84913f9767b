theorem qk : (∀ a b : Nat, lN a + lN b = lN (a + b)) ∧ (∀ a b : Nat, lN a * lN b = lN (a * b)) ∧ (∀ a : Nat, a < 2147483648 → (nI a).toInt64 = lN a) ∧ (∀ a : Nat, nI (a + 1) + onI 0 = nI a) :=
  ⟨lN_add, lN_mul, fun _ h => nI_l h, fun a => pk_m1 a⟩
theorem pow12 {c : Nat} (h : c ≤ 12) : 5 ^ c < 2 ^ 28 := Nat.lt_of_le_of_lt (Nat.pow_le_pow_right (by decide) h) (by decide)
theorem pu_so7 {n : Nat} (hn : 400 ≤ n) {c q p : Nat} (hc : c ≤ 12) (hq : q ≤ 5) (hp : p < 2) (p1 : Int32) (g1 : Nat → Int32) (x y : Int64) : ∀ (t i k A : Nat), i + t = c → A ≤ 5 ^ i →
    ∃ a b, fX7_sound_55 n p1 g1 (k + t + 1) x y (nI q) (nI p) (lN A) (lN (5 ^ i)) (nI t) = some (if nI p = 0 then (lN (A * q ^ t) / lN (Nat.gcd (A * q ^ t) (5 ^ c))).toInt32 else (lN (5 ^ c) / lN (Nat.gcd (A * q ^ t) (5 ^ c))).toInt32, a, b) := by
  have h12 := pow12 hc
  intro t
  induction t with
  | zero =>
    intro i k A hi hA
    have : i = c := by omega
    subst this
    have s := pu_setLowest (n := n) (j := 28) (v := lN A) (w := lN (5 ^ i)) (by decide) (by omega) x y (a := A) (b := 5 ^ i) (by omega) h12 (Nat.pow_pos (by decide)) (Or.inl rfl) rfl
    rw [Nat.pow_zero, Nat.mul_one]
    unfold fX7_sound_55 fX7_sound_113
    by_cases d : p = 0
    · subst d
      refine ⟨lN A / lN (Nat.gcd A (5 ^ i)), lN (5 ^ i) / lN (Nat.gcd A (5 ^ i)), ?_⟩
      simp (disch := omega) only [Nat.zero_add, qa, qb, qbb, qc, qd, qe, qf, qg, Option.bind_some, reduceIte, or_false, false_or, or_self, or_true, true_or, and_true, true_and, and_false, false_and, not_true_eq_false, not_false_eq_true, s]
    · have d1 : p = 1 := by omega
      subst d1
      refine ⟨lN A / lN (Nat.gcd A (5 ^ i)), lN (5 ^ i) / lN (Nat.gcd A (5 ^ i)), ?_⟩
      simp (disch := omega) only [Nat.zero_add, qa, qb, qbb, qc, qd, qe, qf, qg, Option.bind_some, reduceIte, or_false, false_or, or_self, or_true, true_or, and_true, true_and, and_false, false_and, not_true_eq_false, not_false_eq_true, s]
  | succ t ih =>
    intro i k A hi hA
    have hA2 : A * q ≤ 5 ^ (i + 1) := by
      rw [Nat.pow_succ]
      exact Nat.mul_le_mul hA hq
    obtain ⟨a, b, E⟩ := ih (i + 1) k (A * q) (by omega) hA2
    have e1 : A * q * q ^ t = A * q ^ (t + 1) := by rw [Nat.pow_succ, Nat.mul_comm (q ^ t), Nat.mul_assoc]
    have e2 : 5 ^ i * 5 = 5 ^ (i + 1) := by rw [Nat.pow_succ]
    rw [e1] at E
    refine ⟨a, b, ?_⟩
    have e : k + (t + 1) + 1 = (k + t + 1) + 1 := by omega
    rw [e]
    unfold fX7_sound_55
    simp (disch := omega) only [Nat.zero_add, qa, qb, qbb, qc, qd, qe, qf, qg, Option.bind_some, reduceIte, or_false, false_or, or_self, or_true, true_or, and_true, true_and, and_false, false_and, not_true_eq_false, not_false_eq_true, qk, e2]
    simp (disch := omega) only [Nat.zero_add, qa, qb, qbb, qc, qd, qe, qf, qg, Option.bind_some, reduceIte, or_false, false_or, or_self, or_true, true_or, and_true, true_and, and_false, false_and, not_true_eq_false, not_false_eq_true] at E
    exact E
theorem pu_so8 {n : Nat} (hn : 400 ≤ n) {c q p : Nat} (hc : c ≤ 12) (hq : q ≤ 5) (hp : p < 2) (row : Nat → Int32) : ∀ (t i k A : Nat), i + t = c → A ≤ 5 ^ i →
    fX8_sound_56 n row (k + t + 1) (nI q) (nI p) (lN A) (lN (5 ^ i)) (nI t) = some (if nI p = 0 then (lN (A * q ^ t) / lN (Nat.gcd (A * q ^ t) (5 ^ c))).toInt32 else (lN (5 ^ c) / lN (Nat.gcd (A * q ^ t) (5 ^ c))).toInt32) := by
  have h12 := pow12 hc
  intro t
  induction t with
  | zero =>
    intro i k A hi hA
    have : i = c := by omega
    subst this
    have s := pu_partOf (n := n) (j := 28) (v := lN A) (w := lN (5 ^ i)) (by decide) (by omega) (nI p) (a := A) (b := 5 ^ i) (by omega) h12 (Nat.pow_pos (by decide)) (Or.inl rfl) rfl
    rw [Nat.pow_zero, Nat.mul_one]
    unfold fX8_sound_56
    simp (disch := omega) only [Nat.zero_add, qa, qb, qbb, qc, qd, qe, qf, qg, Option.bind_some, reduceIte, or_false, false_or, or_self, or_true, true_or, and_true, true_and, and_false, false_and, not_true_eq_false, not_false_eq_true] at s ⊢
    simp (disch := omega) only [Nat.zero_add, qa, qb, qbb, qc, qd, qe, qf, qg, Option.bind_some, reduceIte, or_false, false_or, or_self, or_true, true_or, and_true, true_and, and_false, false_and, not_true_eq_false, not_false_eq_true, s]
  | succ t ih =>
    intro i k A hi hA
    have hA2 : A * q ≤ 5 ^ (i + 1) := by
      rw [Nat.pow_succ]
      exact Nat.mul_le_mul hA hq
    have E := ih (i + 1) k (A * q) (by omega) hA2
    have e1 : A * q * q ^ t = A * q ^ (t + 1) := by rw [Nat.pow_succ, Nat.mul_comm (q ^ t), Nat.mul_assoc]
    have e2 : 5 ^ i * 5 = 5 ^ (i + 1) := by rw [Nat.pow_succ]
    rw [e1] at E
    have e : k + (t + 1) + 1 = (k + t + 1) + 1 := by omega
    rw [e]
    unfold fX8_sound_56
    simp (disch := omega) only [Nat.zero_add, qa, qb, qbb, qc, qd, qe, qf, qg, Option.bind_some, reduceIte, or_false, false_or, or_self, or_true, true_or, and_true, true_and, and_false, false_and, not_true_eq_false, not_false_eq_true, qk, e2]
    simp (disch := omega) only [Nat.zero_add, qa, qb, qbb, qc, qd, qe, qf, qg, Option.bind_some, reduceIte, or_false, false_or, or_self, or_true, true_or, and_true, true_and, and_false, false_and, not_true_eq_false, not_false_eq_true] at E
    exact E
/-- the call sound -/
theorem pu_sound {n nf nm nl u c : Nat} {le al kd : Nat → Nat} {N T : rmT} {A K : paT} {row fal : Nat → Int32} (hn : 400 ≤ n) (hfa : ∀ g, g < nf → fal g = nI (al g)) (h : relW nf nm nl le al kd N T u A c K row) (x y : Int64) (v1 v2 v3 : Int32) :
    ∃ (r : Int32) (x' y' : Int64), fX7_sound n (nI nf) fal x y v1 v2 v3 = some (r, x', y') ∧ fX8_sound n row v1 v2 v3 = some r := by
  obtain ⟨o, hnm, hnl, ⟨zb, zm, s, ⟨hb, hm, hs⟩, hx, hy⟩, hrest⟩ := id h
  rw [relY0_eq] at hy
  have y1 := hy.1.1
  have hnf := o.1
  have i23 := fun v => pu_isFact n (row := row) (N := nf) (by omega) y1 v
  rcases inG_cas v1 (N := nf) (by omega) with g | ⟨f, hf, rfl, g⟩
  · refine ⟨-nI 2, x, y, ?_, ?_⟩
    · unfold fX7_sound
      simp (disch := omega) only [Nat.zero_add, qa, qb, qbb, qc, qd, qe, qf, qg, Option.bind_some, reduceIte, or_false, false_or, or_self, or_true, true_or, and_true, true_and, and_false, false_and, not_true_eq_false, not_false_eq_true, g]
    · unfold fX8_sound
      simp (disch := omega) only [Nat.zero_add, qa, qb, qbb, qc, qd, qe, qf, qg, Option.bind_some, reduceIte, or_false, false_or, or_self, or_true, true_or, and_true, true_and, and_false, false_and, not_true_eq_false, not_false_eq_true, g, i23]
  · rcases q_cas v2 (a := 0) (N := 6) (by omega) (by omega) with ⟨q, -, hq, rfl⟩ | g1 | ⟨g1, -, -, g2, g3⟩
    · rcases q_cas v3 (a := 0) (N := 2) (by omega) (by omega) with ⟨p, -, hp, rfl⟩ | g1 | ⟨g1, -, -, g2, g3⟩
      · have q5 := hfa f hf
        have q6 := (hy.1.2 f hf).2
        have q8 := lt4096 hnf (al_lt o hf)
        have hc := pc_le (al f)
        have hb2 := pu_bits (n := n) (by omega) (a := al f) (by omega)
        obtain ⟨x', y', E1⟩ := pu_so7 hn (c := pc (al f)) (q := q) (p := p) hc (by omega) hp (nI nf) fal x y (pc (al f)) 0 (n - pc (al f) - 1) 1 (by omega) (by decide)
        have E2 := pu_so8 hn (c := pc (al f)) (q := q) (p := p) hc (by omega) hp row (pc (al f)) 0 (n - pc (al f) - 1) 1 (by omega) (by decide)
        have e : n - pc (al f) - 1 + pc (al f) + 1 = n := by omega
        rw [e, Nat.pow_zero] at E1 E2
        refine ⟨if nI p = 0 then (lN (1 * q ^ pc (al f)) / lN (Nat.gcd (1 * q ^ pc (al f)) (5 ^ pc (al f)))).toInt32 else (lN (5 ^ pc (al f)) / lN (Nat.gcd (1 * q ^ pc (al f)) (5 ^ pc (al f)))).toInt32, x', y', ?_, ?_⟩
        · unfold fX7_sound
          simp (disch := omega) only [Nat.zero_add, qa, qb, qbb, qc, qd, qe, qf, qg, Option.bind_some, reduceIte, or_false, false_or, or_self, or_true, true_or, and_true, true_and, and_false, false_and, not_true_eq_false, not_false_eq_true, g, q5] at E1 ⊢
          exact E1
        · unfold fX8_sound
          simp (disch := omega) only [Nat.zero_add, qa, qb, qbb, qc, qd, qe, qf, qg, Option.bind_some, reduceIte, or_false, false_or, or_self, or_true, true_or, and_true, true_and, and_false, false_and, not_true_eq_false, not_false_eq_true, g, i23, q6, hb2] at E2 ⊢
          exact E2
      · refine ⟨-nI 3, x, y, ?_, ?_⟩
        · unfold fX7_sound fX7_sound_32
          simp (disch := omega) only [Nat.zero_add, qa, qb, qbb, qc, qd, qe, qf, qg, Option.bind_some, reduceIte, or_false, false_or, or_self, or_true, true_or, and_true, true_and, and_false, false_and, not_true_eq_false, not_false_eq_true, g, g1]
        · unfold fX8_sound fX8_sound_33
          simp (disch := omega) only [Nat.zero_add, qa, qb, qbb, qc, qd, qe, qf, qg, Option.bind_some, reduceIte, or_false, false_or, or_self, or_true, true_or, and_true, true_and, and_false, false_and, not_true_eq_false, not_false_eq_true, g, i23, g1]
      · refine ⟨-nI 3, x, y, ?_, ?_⟩
        · unfold fX7_sound fX7_sound_32
          simp (disch := omega) only [Nat.zero_add, qa, qb, qbb, qc, qd, qe, qf, qg, Option.bind_some, reduceIte, or_false, false_or, or_self, or_true, true_or, and_true, true_and, and_false, false_and, not_true_eq_false, not_false_eq_true, g, g1, g2]
        · unfold fX8_sound fX8_sound_33
          simp (disch := omega) only [Nat.zero_add, qa, qb, qbb, qc, qd, qe, qf, qg, Option.bind_some, reduceIte, or_false, false_or, or_self, or_true, true_or, and_true, true_and, and_false, false_and, not_true_eq_false, not_false_eq_true, g, i23, g1, g3]
    · refine ⟨-nI 3, x, y, ?_, ?_⟩
      · unfold fX7_sound fX7_sound_32
        simp (disch := omega) only [Nat.zero_add, qa, qb, qbb, qc, qd, qe, qf, qg, Option.bind_some, reduceIte, or_false, false_or, or_self, or_true, true_or, and_true, true_and, and_false, false_and, not_true_eq_false, not_false_eq_true, g, g1]
      · unfold fX8_sound fX8_sound_33
        simp (disch := omega) only [Nat.zero_add, qa, qb, qbb, qc, qd, qe, qf, qg, Option.bind_some, reduceIte, or_false, false_or, or_self, or_true, true_or, and_true, true_and, and_false, false_and, not_true_eq_false, not_false_eq_true, g, i23, g1]
    · refine ⟨-nI 3, x, y, ?_, ?_⟩
      · unfold fX7_sound fX7_sound_32
        simp (disch := omega) only [Nat.zero_add, qa, qb, qbb, qc, qd, qe, qf, qg, Option.bind_some, reduceIte, or_false, false_or, or_self, or_true, true_or, and_true, true_and, and_false, false_and, not_true_eq_false, not_false_eq_true, g, g1, g3]
      · unfold fX8_sound fX8_sound_33
        simp (disch := omega) only [Nat.zero_add, qa, qb, qbb, qc, qd, qe, qf, qg, Option.bind_some, reduceIte, or_false, false_or, or_self, or_true, true_or, and_true, true_and, and_false, false_and, not_true_eq_false, not_false_eq_true, g, i23, g1, g3]
