/-- p holds of all of t from i -/
def alB (p : Nat → Bool) : Nat → Nat → Bool
  | 0, _ => true
  | t + 1, i => p i && alB p t (i + 1)
theorem alB_1 {p : Nat → Bool} {t i : Nat} (h : p i = true) : alB p (t + 1) i = alB p t (i + 1) := by
  show (p i && alB p t (i + 1)) = _
  rw [h, Bool.true_and]
theorem alB_0 {p : Nat → Bool} {t i : Nat} (h : ¬ p i = true) : alB p (t + 1) i = false := by
  show (p i && alB p t (i + 1)) = _
  rw [Bool.eq_false_iff.mpr h, Bool.false_and]
/-- does a sighting fit a kind -/
def fitB (al : Nat → Nat) (nf : Nat) (K : Nat → Nat) (S : Nat → Nat × Nat × Nat × Nat) (kd j : Nat) : Bool := (KA al nf kd (S j).2.1 (K (S j).1)).testBit (S j).2.2.1 == decide ((S j).2.2.2 = 1)
theorem pu_fa_loop {n : Nat} (hn : 400 ≤ n) {lw kn a1 a2 a3 a4 b1 b2 b3 b4 : Nat → Int32} {al K : Nat → Nat} {nf nm z kd : Nat} {S : Nat → Nat × Nat × Nat × Nat} (hnf : nf ≤ 12) (hnm : nm ≤ 4) (hC : fctC lw nf al) (hkd : kd < 5) (hkn : ∀ m, m < nm → kn m = nI (K m)) (hK : ∀ m, m < nm → K m < 2 ^ nf) (hS : relS nf nm z S a1 a2 a3 a4 b1 b2 b3 b4) : ∀ (t i q : Nat) (R : rmT), i + t = z →
    ∃ R' : rmT, fX7_fitsAll_2 n (nI z) a1 (nI nm) kn a2 lw a3 a4 (q + t + 1) R.1 R.2.1 R.2.2.1 R.2.2.2.1 R.2.2.2.2.1 R.2.2.2.2.2.1 R.2.2.2.2.2.2.1 R.2.2.2.2.2.2.2 (nI kd) (nI i) = some (if alB (fitB al nf K S kd) t i = true then nI 1 else nI 0, R'.1, R'.2.1, R'.2.2.1, R'.2.2.2.1, R'.2.2.2.2.1, R'.2.2.2.2.2.1, R'.2.2.2.2.2.2.1, R'.2.2.2.2.2.2.2) := by
  obtain ⟨hz, hs⟩ := hS
  intro t
  induction t with
  | zero =>
    intro i q R hi
    refine ⟨R, ?_⟩
    unfold fX7_fitsAll_2
    simp (disch := omega) only [Nat.zero_add, qa, qb, qbb, qc, qd, qe, qf, qg, Option.bind_some, reduceIte, or_false, false_or, or_self, or_true, true_or, and_true, true_and, and_false, false_and, not_true_eq_false, not_false_eq_true]
    rfl
  | succ t ih =>
    intro i q R hi
    obtain ⟨⟨h1, h2, h3, h4, h5⟩, ⟨e1, e2, e3, e4⟩, -⟩ := hs i (by omega)
    have q1 := hkn _ h1
    have q2 := hK _ h1
    have q3 := lt4096 hnf q2
    have q4 := KA_le al nf kd (S i).2.1 q3
    have q5 := inG_1 h1 (show nm < 2147483648 by omega)
    obtain ⟨R1, E1⟩ := pu_kaa hn hnf hC hkd q2 (t := (S i).2.1) (by omega) R
    have e : q + (t + 1) + 1 = (q + t + 1) + 1 := by omega
    rw [e]
    unfold fX7_fitsAll_2 fX7_fitsAll_47
    by_cases d : fitB al nf K S kd i = true
    · obtain ⟨R', E2⟩ := ih (i + 1) q R1 (by omega)
      rw [alB_1 d]
      refine ⟨R', ?_⟩
      unfold fitB at d
      simp (disch := omega) only [Nat.zero_add, qa, qb, qbb, qc, qd, qe, qf, qg, Option.bind_some, reduceIte, or_false, false_or, or_self, or_true, true_or, and_true, true_and, and_false, false_and, not_true_eq_false, not_false_eq_true, e1, e2, e3, e4, q1, q5, E1] at d ⊢
      by_cases b : (KA al nf kd (S i).2.1 (K (S i).1)).testBit (S i).2.2.1 = true
      · rw [b] at d
        have w : (S i).2.2.2 = 1 := by simpa using d
        simp (disch := omega) only [Nat.zero_add, qa, qb, qbb, qc, qd, qe, qf, qg, Option.bind_some, reduceIte, or_false, false_or, or_self, or_true, true_or, and_true, true_and, and_false, false_and, not_true_eq_false, not_false_eq_true, b, w]
        exact E2
      · have b' : (KA al nf kd (S i).2.1 (K (S i).1)).testBit (S i).2.2.1 = false := by simpa using b
        rw [b'] at d
        have w : (S i).2.2.2 ≠ 1 := by simpa using d
        have w' : (S i).2.2.2 = 0 := by omega
        simp (disch := omega) only [Nat.zero_add, qa, qb, qbb, qc, qd, qe, qf, qg, Option.bind_some, reduceIte, or_false, false_or, or_self, or_true, true_or, and_true, true_and, and_false, false_and, not_true_eq_false, not_false_eq_true, b', w', Bool.false_eq_true]
        exact E2
    · rw [alB_0 d]
      refine ⟨R1, ?_⟩
      unfold fitB at d
      simp (disch := omega) only [Nat.zero_add, qa, qb, qbb, qc, qd, qe, qf, qg, Option.bind_some, reduceIte, or_false, false_or, or_self, or_true, true_or, and_true, true_and, and_false, false_and, not_true_eq_false, not_false_eq_true, e1, e2, e3, e4, q1, q5, E1, Bool.false_eq_true] at d ⊢
      by_cases b : (KA al nf kd (S i).2.1 (K (S i).1)).testBit (S i).2.2.1 = true
      · rw [b] at d
        have w : (S i).2.2.2 ≠ 1 := by simpa using d
        have w' : (S i).2.2.2 = 0 := by omega
        simp (disch := omega) only [Nat.zero_add, qa, qb, qbb, qc, qd, qe, qf, qg, Option.bind_some, reduceIte, or_false, false_or, or_self, or_true, true_or, and_true, true_and, and_false, false_and, not_true_eq_false, not_false_eq_true, b, w']
      · have b' : (KA al nf kd (S i).2.1 (K (S i).1)).testBit (S i).2.2.1 = false := by simpa using b
        rw [b'] at d
        have w : (S i).2.2.2 = 1 := by simpa using d
        simp (disch := omega) only [Nat.zero_add, qa, qb, qbb, qc, qd, qe, qf, qg, Option.bind_some, reduceIte, or_false, false_or, or_self, or_true, true_or, and_true, true_and, and_false, false_and, not_true_eq_false, not_false_eq_true, b', w, Bool.false_eq_true]
theorem pu_ktf_loop {n : Nat} (hn : 400 ≤ n) {lw kn a1 a2 a3 a4 b1 b2 b3 b4 : Nat → Int32} {al K : Nat → Nat} {nf nm z : Nat} {S : Nat → Nat × Nat × Nat × Nat} (hnf : nf ≤ 12) (hnm : nm ≤ 4) (hC : fctC lw nf al) (hkn : ∀ m, m < nm → kn m = nI (K m)) (hK : ∀ m, m < nm → K m < 2 ^ nf) (hS : relS nf nm z S a1 a2 a3 a4 b1 b2 b3 b4) : ∀ (t i q : Nat) (R : rmT), i + t = 5 →
    ∃ R' : rmT, fX7_kindsThatFit_4 n (nI z) a1 (nI nm) kn a2 lw a3 a4 (q + t + 1) R.1 R.2.1 R.2.2.1 R.2.2.2.1 R.2.2.2.2.1 R.2.2.2.2.2.1 R.2.2.2.2.2.2.1 R.2.2.2.2.2.2.2 (nI (colB (fun kd => alB (fitB al nf K S kd) z 0) i)) (nI i) = some (nI (colB (fun kd => alB (fitB al nf K S kd) z 0) 5), R'.1, R'.2.1, R'.2.2.1, R'.2.2.2.1, R'.2.2.2.2.1, R'.2.2.2.2.2.1, R'.2.2.2.2.2.2.1, R'.2.2.2.2.2.2.2) := by
  intro t
  induction t with
  | zero =>
    intro i q R hi
    have : i = 5 := by omega
    subst this
    refine ⟨R, ?_⟩
    unfold fX7_kindsThatFit_4
    simp (disch := omega) only [Nat.zero_add, qa, qb, qbb, qc, qd, qe, qf, qg, Option.bind_some, reduceIte, or_false, false_or, or_self, or_true, true_or, and_true, true_and, and_false, false_and, not_true_eq_false, not_false_eq_true]
  | succ t ih =>
    intro i q R hi
    obtain ⟨R1, E1⟩ := pu_fa_loop hn hnf hnm hC (kd := i) (by omega) hkn hK hS z 0 (n - z - 1) R (by omega)
    have hz := hS.1
    have en : n - z - 1 + z + 1 = n := by omega
    rw [en] at E1
    have E1' : fX7_fitsAll n (nI z) a1 (nI nm) kn a2 lw a3 a4 R.1 R.2.1 R.2.2.1 R.2.2.2.1 R.2.2.2.2.1 R.2.2.2.2.2.1 R.2.2.2.2.2.2.1 R.2.2.2.2.2.2.2 (nI i) = some (if alB (fitB al nf K S i) z 0 = true then nI 1 else nI 0, R1.1, R1.2.1, R1.2.2.1, R1.2.2.2.1, R1.2.2.2.2.1, R1.2.2.2.2.2.1, R1.2.2.2.2.2.2.1, R1.2.2.2.2.2.2.2) := E1
    obtain ⟨R', E2⟩ := ih (i + 1) q R1 (by omega)
    have e : q + (t + 1) + 1 = (q + t + 1) + 1 := by omega
    refine ⟨R', ?_⟩
    rw [e]
    unfold fX7_kindsThatFit_4 fX7_kindsThatFit_23
    by_cases d : alB (fitB al nf K S i) z 0 = true
    · rw [colB_1 (p := fun kd => alB (fitB al nf K S kd) z 0) (k := i) d] at E2
      rw [if_pos d] at E1'
      simp (disch := omega) only [Nat.zero_add, qa, qb, qbb, qc, qd, qe, qf, qg, Option.bind_some, reduceIte, or_false, false_or, or_self, or_true, true_or, and_true, true_and, and_false, false_and, not_true_eq_false, not_false_eq_true, E1']
      exact E2
    · rw [colB_0 (p := fun kd => alB (fitB al nf K S kd) z 0) (k := i) d] at E2
      rw [if_neg d] at E1'
      simp (disch := omega) only [Nat.zero_add, qa, qb, qbb, qc, qd, qe, qf, qg, Option.bind_some, reduceIte, or_false, false_or, or_self, or_true, true_or, and_true, true_and, and_false, false_and, not_true_eq_false, not_false_eq_true, E1']
      exact E2
theorem pu_ktf {n : Nat} (hn : 400 ≤ n) {lw kn a1 a2 a3 a4 b1 b2 b3 b4 : Nat → Int32} {al K : Nat → Nat} {nf nm z : Nat} {S : Nat → Nat × Nat × Nat × Nat} (hnf : nf ≤ 12) (hnm : nm ≤ 4) (hC : fctC lw nf al) (hkn : ∀ m, m < nm → kn m = nI (K m)) (hK : ∀ m, m < nm → K m < 2 ^ nf) (hS : relS nf nm z S a1 a2 a3 a4 b1 b2 b3 b4) (R : rmT) :
    ∃ R' : rmT, fX7_kindsThatFit n (nI z) a1 (nI nm) kn a2 lw a3 a4 R.1 R.2.1 R.2.2.1 R.2.2.2.1 R.2.2.2.2.1 R.2.2.2.2.2.1 R.2.2.2.2.2.2.1 R.2.2.2.2.2.2.2 = some (nI (colB (fun kd => alB (fitB al nf K S kd) z 0) 5), R'.1, R'.2.1, R'.2.2.1, R'.2.2.2.1, R'.2.2.2.2.1, R'.2.2.2.2.2.1, R'.2.2.2.2.2.2.1, R'.2.2.2.2.2.2.2) := by
  obtain ⟨R', E⟩ := pu_ktf_loop hn hnf hnm hC hkn hK hS 5 0 (n - 6) R (by omega)
  have e : n - 6 + 5 + 1 = n := by omega
  rw [e] at E
  exact ⟨R', E⟩
theorem pu_k14_0 {n z : Nat} (hz : z ≤ 6) {b1 b2 b3 b4 row : Nat → Int32} (r4 : Int32 → Int32 → Int32 → Int32 → Int32 → Option (Int32 × Int32 × Int32 × Int32)) (v1 v2 : Int32) : ∀ (t i q : Nat) (x1 x2 x3 : Int32), i + t = z →
    fX8_kinds_14 n r4 (nI z) b1 b2 row b3 b4 (q + t + 1) x1 x2 x3 v1 v2 (nI 0) (nI i) = r4 x1 x2 x3 (v1 ||| nI 0) (v2 + nI 1) := by
  intro t
  induction t with
  | zero =>
    intro i q x1 x2 x3 hi
    unfold fX8_kinds_14 fX8_kinds_99
    simp (disch := omega) only [Nat.zero_add, qa, qb, qbb, qc, qd, qe, qf, qg, Option.bind_some, reduceIte, or_false, false_or, or_self, or_true, true_or, and_true, true_and, and_false, false_and, not_true_eq_false, not_false_eq_true]
  | succ t ih =>
    intro i q x1 x2 x3 hi
    have E := ih (i + 1) q x1 x2 x3 (by omega)
    have e : q + (t + 1) + 1 = (q + t + 1) + 1 := by omega
    rw [e]
    unfold fX8_kinds_14 fX8_kinds_79 fX8_kinds_80
    simp (disch := omega) only [Nat.zero_add, qa, qb, qbb, qc, qd, qe, qf, qg, Option.bind_some, reduceIte, or_false, false_or, or_self, or_true, true_or, and_true, true_and, and_false, false_and, not_true_eq_false, not_false_eq_true]
    exact E
theorem pu_k14 {n : Nat} (hn : 400 ≤ n) {row a1 a2 a3 a4 b1 b2 b3 b4 : Nat → Int32} {al K : Nat → Nat} {nf nm z kd : Nat} {S : Nat → Nat × Nat × Nat × Nat} (hF : fctM row nf al) (hnm : nm ≤ 4) (hkd : kd < 5) (hr : ∀ m, m < nm → row m = nI (K m)) (hK : ∀ m, m < nm → K m < 2 ^ nf) (hS : relS nf nm z S a1 a2 a3 a4 b1 b2 b3 b4) (r4 : Int32 → Int32 → Int32 → Int32 → Int32 → Option (Int32 × Int32 × Int32 × Int32)) (v1 : Int32) : ∀ (t i q : Nat) (x1 x2 x3 : Int32), i + t = z →
    ∃ y1 y2 y3, fX8_kinds_14 n r4 (nI z) b1 b2 row b3 b4 (q + t + 1) x1 x2 x3 v1 (nI kd) (nI 1) (nI i) = r4 y1 y2 y3 (v1 ||| nI (if alB (fitB al nf K S kd) t i = true then 2 ^ kd else 0)) (nI (kd + 1)) := by
  have hz := hS.1
  have hs := hS.2
  have hnf := hF.1
  intro t
  induction t with
  | zero =>
    intro i q x1 x2 x3 hi
    refine ⟨x1, x2, x3, ?_⟩
    have a0 : alB (fitB al nf K S kd) 0 i = true := rfl
    unfold fX8_kinds_14 fX8_kinds_99
    simp (disch := omega) only [Nat.zero_add, qa, qb, qbb, qc, qd, qe, qf, qg, Option.bind_some, reduceIte, or_false, false_or, or_self, or_true, true_or, and_true, true_and, and_false, false_and, not_true_eq_false, not_false_eq_true, a0]
  | succ t ih =>
    intro i q x1 x2 x3 hi
    obtain ⟨⟨h1, h2, h3, h4, h5⟩, -, e1, e2, e3, e4⟩ := hs i (by omega)
    have q1 := hr _ h1
    have q3 := lt4096 hnf (hK _ h1)
    have q4 := KA_le al nf kd (S i).2.1 q3
    obtain ⟨z1, z2, z3, E1⟩ := pu_kb hn hF hkd (T := (S i).2.1) (by omega) (by omega) (show (S i).1 < 4 by omega) q1 q3 x1 x2 x3
    have e : q + (t + 1) + 1 = (q + t + 1) + 1 := by omega
    rw [e]
    unfold fX8_kinds_14 fX8_kinds_72 fX8_kinds_79 fX8_kinds_80
    by_cases d : fitB al nf K S kd i = true
    · obtain ⟨y1, y2, y3, E2⟩ := ih (i + 1) q z1 z2 z3 (by omega)
      rw [alB_1 d]
      refine ⟨y1, y2, y3, ?_⟩
      unfold fitB at d
      by_cases b : (KA al nf kd (S i).2.1 (K (S i).1)).testBit (S i).2.2.1 = true
      · rw [b] at d
        have w : (S i).2.2.2 = 1 := by simpa using d
        simp (disch := omega) only [Nat.zero_add, qa, qb, qbb, qc, qd, qe, qf, qg, Option.bind_some, reduceIte, or_false, false_or, or_self, or_true, true_or, and_true, true_and, and_false, false_and, not_true_eq_false, not_false_eq_true, e1, e2, e3, e4, E1, b, w]
        exact E2
      · have b' : (KA al nf kd (S i).2.1 (K (S i).1)).testBit (S i).2.2.1 = false := by simpa using b
        rw [b'] at d
        have w : (S i).2.2.2 ≠ 1 := by simpa using d
        have w' : (S i).2.2.2 = 0 := by omega
        simp (disch := omega) only [Nat.zero_add, qa, qb, qbb, qc, qd, qe, qf, qg, Option.bind_some, reduceIte, or_false, false_or, or_self, or_true, true_or, and_true, true_and, and_false, false_and, not_true_eq_false, not_false_eq_true, e1, e2, e3, e4, E1, b', w', Bool.false_eq_true]
        exact E2
    · rw [alB_0 d]
      refine ⟨z1, z2, z3, ?_⟩
      have E2 := pu_k14_0 (n := n) hz (b1 := b1) (b2 := b2) (b3 := b3) (b4 := b4) (row := row) r4 v1 (nI kd) t (i + 1) q z1 z2 z3 (by omega)
      unfold fitB at d
      by_cases b : (KA al nf kd (S i).2.1 (K (S i).1)).testBit (S i).2.2.1 = true
      · rw [b] at d
        have w : (S i).2.2.2 ≠ 1 := by simpa using d
        have w' : (S i).2.2.2 = 0 := by omega
        simp (disch := omega) only [Nat.zero_add, qa, qb, qbb, qc, qd, qe, qf, qg, Option.bind_some, reduceIte, or_false, false_or, or_self, or_true, true_or, and_true, true_and, and_false, false_and, not_true_eq_false, not_false_eq_true, e1, e2, e3, e4, E1, b, w', Bool.false_eq_true] at E2 ⊢
        exact E2
      · have b' : (KA al nf kd (S i).2.1 (K (S i).1)).testBit (S i).2.2.1 = false := by simpa using b
        rw [b'] at d
        have w : (S i).2.2.2 = 1 := by simpa using d
        simp (disch := omega) only [Nat.zero_add, qa, qb, qbb, qc, qd, qe, qf, qg, Option.bind_some, reduceIte, or_false, false_or, or_self, or_true, true_or, and_true, true_and, and_false, false_and, not_true_eq_false, not_false_eq_true, e1, e2, e3, e4, E1, b', w, Bool.false_eq_true] at E2 ⊢
        exact E2
theorem pu_k4 {n : Nat} (hn : 400 ≤ n) {row a1 a2 a3 a4 b1 b2 b3 b4 : Nat → Int32} {al K : Nat → Nat} {nf nm z : Nat} {S : Nat → Nat × Nat × Nat × Nat} (hF : fctM row nf al) (hnm : nm ≤ 4) (hr : ∀ m, m < nm → row m = nI (K m)) (hK : ∀ m, m < nm → K m < 2 ^ nf) (hS : relS nf nm z S a1 a2 a3 a4 b1 b2 b3 b4) : ∀ (t i q : Nat) (x1 x2 x3 : Int32), i + t = 5 →
    ∃ y1 y2 y3, fX8_kinds_4 n (nI z) b1 b2 row b3 b4 (q + t + 1) x1 x2 x3 (nI (colB (fun kd => alB (fitB al nf K S kd) z 0) i)) (nI i) = some (nI (colB (fun kd => alB (fitB al nf K S kd) z 0) 5), y1, y2, y3) := by
  intro t
  induction t with
  | zero =>
    intro i q x1 x2 x3 hi
    have : i = 5 := by omega
    subst this
    refine ⟨x1, x2, x3, ?_⟩
    unfold fX8_kinds_4
    simp (disch := omega) only [Nat.zero_add, qa, qb, qbb, qc, qd, qe, qf, qg, Option.bind_some, reduceIte, or_false, false_or, or_self, or_true, true_or, and_true, true_and, and_false, false_and, not_true_eq_false, not_false_eq_true]
  | succ t ih =>
    intro i q x1 x2 x3 hi
    have hz := hS.1
    obtain ⟨z1, z2, z3, E1⟩ := pu_k14 hn hF hnm (kd := i) (by omega) hr hK hS (fX8_kinds_4 n (nI z) b1 b2 row b3 b4 (q + t + 1)) (nI (colB (fun kd => alB (fitB al nf K S kd) z 0) i)) z 0 (n - z - 1) x1 x2 x3 (by omega)
    have en : n - z - 1 + z + 1 = n := by omega
    rw [en, pu_or] at E1
    obtain ⟨y1, y2, y3, E2⟩ := ih (i + 1) q z1 z2 z3 (by omega)
    have e : q + (t + 1) + 1 = (q + t + 1) + 1 := by omega
    refine ⟨y1, y2, y3, ?_⟩
    rw [e]
    unfold fX8_kinds_4
    simp (disch := omega) only [Nat.zero_add, qa, qb, qbb, qc, qd, qe, qf, qg, Option.bind_some, reduceIte, or_false, false_or, or_self, or_true, true_or, and_true, true_and, and_false, false_and, not_true_eq_false, not_false_eq_true]
    exact E1.trans E2
theorem pu_kinds8 {n : Nat} (hn : 400 ≤ n) {row a1 a2 a3 a4 b1 b2 b3 b4 : Nat → Int32} {al K : Nat → Nat} {nf nm z : Nat} {S : Nat → Nat × Nat × Nat × Nat} (hF : fctM row nf al) (hnm : nm ≤ 4) (hr : ∀ m, m < nm → row m = nI (K m)) (hK : ∀ m, m < nm → K m < 2 ^ nf) (hS : relS nf nm z S a1 a2 a3 a4 b1 b2 b3 b4) (x1 x2 x3 : Int32) :
    ∃ y1 y2 y3, fX8_kinds n (nI z) b1 b2 row b3 b4 x1 x2 x3 = some (nI (colB (fun kd => alB (fitB al nf K S kd) z 0) 5), y1, y2, y3) := by
  obtain ⟨y1, y2, y3, E⟩ := pu_k4 hn hF hnm hr hK hS 5 0 (n - 6) x1 x2 x3 (by omega)
  have e : n - 6 + 5 + 1 = n := by omega
  rw [e] at E
  exact ⟨y1, y2, y3, E⟩
theorem fctM_W {nf nm nl u c : Nat} {le al kd : Nat → Nat} {N T : rmT} {A K : paT} {row : Nat → Int32} (h : relW nf nm nl le al kd N T u A c K row) : fctM row nf al := by
  obtain ⟨o, hnm, hnl, ⟨zb, zm, s, -, -, hy⟩, -⟩ := id h
  rw [relY0_eq] at hy
  exact fctM_of o hy
/-- the call kinds -/
theorem pu_kinds {n nf nm nl u c z : Nat} {le al kd : Nat → Nat} {N T : rmT} {A K : paT} {row lw a1 a2 a3 a4 b1 b2 b3 b4 : Nat → Int32} {S : Nat → Nat × Nat × Nat × Nat} (hn : 400 ≤ n) (hC : fctC lw nf al) (h : relW nf nm nl le al kd N T u A c K row) (hS : relS nf nm z S a1 a2 a3 a4 b1 b2 b3 b4) (R : rmT) (w1 w2 w3 : Int32) :
    ∃ (r : Int32) (R' : rmT) (w1' w2' w3' : Int32), fX7_kinds n (nI z) a1 N.1 N.2.2.2.2.1 a2 lw a3 a4 R.1 R.2.1 R.2.2.1 R.2.2.2.1 R.2.2.2.2.1 R.2.2.2.2.2.1 R.2.2.2.2.2.2.1 R.2.2.2.2.2.2.2 = some (r, R'.1, R'.2.1, R'.2.2.1, R'.2.2.2.1, R'.2.2.2.2.1, R'.2.2.2.2.2.1, R'.2.2.2.2.2.2.1, R'.2.2.2.2.2.2.2) ∧ fX8_kinds n (nI z) b1 b2 row b3 b4 w1 w2 w3 = some (r, w1', w2', w3') := by
  have hF := fctM_W h
  obtain ⟨o, hnm, hnl, ⟨zb, zm, s, ⟨hb, hm, s1, s2, s3⟩, ⟨x1, x2, x3, x4, x5, x6, x7, x8⟩, hy⟩, hrest⟩ := id h
  rw [relY0_eq] at hy
  obtain ⟨R', E1⟩ := pu_ktf hn o.1 hnm hC x7 s2 hS R
  obtain ⟨y1, y2, y3, E2⟩ := pu_kinds8 hn hF hnm hy.2.1.2.2.2.2.1 s2 hS w1 w2 w3
  refine ⟨_, R', y1, y2, y3, ?_, E2⟩
  unfold fX7_kinds
  rw [x1, E1, Option.bind_some]
