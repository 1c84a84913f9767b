/-- minutes of a leech until a want is met, of t from i: 0 if not, else one more -/
def mnS (al : Nat → Nat) (nf kd lo ke : Nat) : Nat → Nat → Nat × Nat → Nat
  | 0, _, _ => 0
  | t + 1, i, p => if isO lo ke p.2 = true then i + 1 else mnS al nf kd lo ke t (i + 1) (sk al nf kd p.1 p.2)
theorem mnS_s (al : Nat → Nat) (nf kd lo ke t i : Nat) (p : Nat × Nat) : mnS al nf kd lo ke (t + 1) i p = if isO lo ke p.2 = true then i + 1 else mnS al nf kd lo ke t (i + 1) (sk al nf kd p.1 p.2) := rfl
theorem mnS_le (al : Nat → Nat) (nf kd lo ke : Nat) : ∀ (t i : Nat) (p : Nat × Nat), mnS al nf kd lo ke t i p ≤ i + t := by
  intro t
  induction t with
  | zero => intro i p; exact Nat.zero_le _
  | succ t ih =>
    intro i p
    rw [mnS_s]
    split
    · omega
    · have := ih (i + 1) (sk al nf kd p.1 p.2); omega
theorem pu_ma_loop {n : Nat} (hn : 400 ≤ n) {lw : Nat → Int32} {al : Nat → Nat} {nf : Nat} (hnf : nf ≤ 12) (hC : fctC lw nf al) {kd lo ke : Nat} (hl : lo < 4096) (hke : ke < 4096) (ki : Nat → Int32) : ∀ (t i q mi h k : Nat) (s : rmS) (kn on ha : Nat → Int32), i + t = 21 → isA kd h k s → okS nf 1 1 s → relC 1 1 (fun _ => kd) ki ha kn on s →
    ∃ R' : rmT, fX7_minutesAlone_12 n lw (q + t + 1) (nI 1) (nI 1) (nI 0) (nI mi) kn ki on ha (nI lo) (nI ke) (nI i) = some (onI (mnS al nf kd lo ke t i (h, k)), R'.1, R'.2.1, R'.2.2.1, R'.2.2.2.1, R'.2.2.2.2.1, R'.2.2.2.2.2.1, R'.2.2.2.2.2.2.1, R'.2.2.2.2.2.2.2) := by
  intro t
  induction t with
  | zero =>
    intro i q mi h k s kn on ha hi hA hs hr
    refine ⟨(nI 1, nI 1, nI 0, nI mi, kn, ki, on, ha), ?_⟩
    unfold fX7_minutesAlone_12
    simp (disch := omega) only [Nat.zero_add, qa, qb, qbb, qc, qd, qe, qf, qg, Option.bind_some, reduceIte, or_false, false_or, or_self, or_true, true_or, and_true, true_and, and_false, false_and, not_true_eq_false, not_false_eq_true]
    rfl
  | succ t ih =>
    intro i q mi h k s kn on ha hi hA hs hr
    have q1 := hr.2.2.1 0 (by omega)
    rw [hA.2.1] at q1
    have q2 : k < 2 ^ nf := by have := hs.2.1 0 (by omega); rw [hA.2.1] at this; exact this
    have q3 := lt4096 hnf q2
    have q4 := pu_isO7 n (lo := lo) (ke := ke) q3 hl hke
    have e : q + (t + 1) + 1 = (q + t + 1) + 1 := by omega
    rw [e, mnS_s]
    by_cases d : isO lo ke k = true
    · refine ⟨(nI 1, nI 1, nI 0, nI mi, kn, ki, on, ha), ?_⟩
      unfold fX7_minutesAlone_12
      simp (disch := omega) only [Nat.zero_add, qa, qb, qbb, qc, qd, qe, qf, qg, Option.bind_some, reduceIte, or_false, false_or, or_self, or_true, true_or, and_true, true_and, and_false, false_and, not_true_eq_false, not_false_eq_true, q1, q4, d]
    · obtain ⟨ha', kn', on', R1, E2⟩ := pu_pass1 (mi := mi) hn hnf (by omega) (by omega) hC hs hr
      obtain ⟨R', E⟩ := ih (i + 1) q (mi + 1) _ _ _ kn' on' ha' (by omega) (isA_st hA) (okS_stN hnf 1 0 s rfl hs) R1
      refine ⟨R', ?_⟩
      unfold fX7_minutesAlone_12
      simp (disch := omega) only [Nat.zero_add, qa, qb, qbb, qc, qd, qe, qf, qg, Option.bind_some, reduceIte, or_false, false_or, or_self, or_true, true_or, and_true, true_and, and_false, false_and, not_true_eq_false, not_false_eq_true, q1, q4, d, E2, Bool.false_eq_true]
      exact E
theorem pu_minutesAlone {n : Nat} (hn : 400 ≤ n) {lw : Nat → Int32} {al : Nat → Nat} {nf : Nat} (hnf : nf ≤ 12) (hC : fctC lw nf al) {kd lo ke k : Nat} (hkd : kd < 5) (hk : k < 2 ^ nf) (hl : lo < 4096) (hke : ke < 4096) (R : rmT) :
    ∃ R' : rmT, fX7_minutesAlone n lw R.1 R.2.1 R.2.2.1 R.2.2.2.1 R.2.2.2.2.1 R.2.2.2.2.2.1 R.2.2.2.2.2.2.1 R.2.2.2.2.2.2.2 (nI k) (nI kd) (nI lo) (nI ke) = some (onI (mnS al nf kd lo ke 21 0 (0, k)), R'.1, R'.2.1, R'.2.2.1, R'.2.2.2.1, R'.2.2.2.2.1, R'.2.2.2.2.2.1, R'.2.2.2.2.2.2.1, R'.2.2.2.2.2.2.2) := by
  obtain ⟨R', E⟩ := pu_ma_loop hn hnf hC (kd := kd) hl hke (upd R.2.2.2.2.2.1 0 (nI kd)) 21 0 (n - 22) 0 0 k _ _ _ _ (by omega) ⟨rfl, rfl, Or.inl rfl⟩ (okS_alone hk) (relC_alone (k := k) hkd R)
  have e : n - 22 + 21 + 1 = n := by omega
  rw [e] at E
  refine ⟨R', ?_⟩
  unfold fX7_minutesAlone
  rw [pu_setAlone, Option.bind_some]
  exact E
def muI (x : Nat) : Int32 := if x = 0 then nI 99999 else nI (x - 1)
theorem pu_mo_loop {n : Nat} (hn : 400 ≤ n) {row : Nat → Int32} {nf : Nat} {al : Nat → Nat} (hF : fctM row nf al) {kd lo ke : Nat} (hkd : kd < 5) (hl : lo < 4096) (hke : ke < 4096) : ∀ (t i q h k : Nat) (x3 : Int32), i + t = 21 → h < 4096 → k < 4096 →
    ∃ y1 y2 y3, fX8_minutesOf_20 n row (q + t + 1) (nI h) (nI k) x3 (nI kd) (nI lo) (nI ke) (nI i) = some (muI (mnS al nf kd lo ke t i (h, k)), y1, y2, y3) := by
  intro t
  induction t with
  | zero =>
    intro i q h k x3 hi hh hk
    refine ⟨nI h, nI k, x3, ?_⟩
    unfold fX8_minutesOf_20
    simp (disch := omega) only [Nat.zero_add, qa, qb, qbb, qc, qd, qe, qf, qg, Option.bind_some, reduceIte, or_false, false_or, or_self, or_true, true_or, and_true, true_and, and_false, false_and, not_true_eq_false, not_false_eq_true]
    rfl
  | succ t ih =>
    intro i q h k x3 hi hh hk
    have q4 := pu_isO8 n (lo := lo) (ke := ke) hk hl hke
    have e : q + (t + 1) + 1 = (q + t + 1) + 1 := by omega
    rw [e, mnS_s]
    by_cases d : isO lo ke k = true
    · refine ⟨nI h, nI k, x3, ?_⟩
      unfold fX8_minutesOf_20 muI
      simp (disch := omega) only [Nat.zero_add, qa, qb, qbb, qc, qd, qe, qf, qg, Option.bind_some, reduceIte, or_false, false_or, or_self, or_true, true_or, and_true, true_and, and_false, false_and, not_true_eq_false, not_false_eq_true, q4, d, Nat.add_sub_cancel, Nat.add_one_ne_zero]
    · have hs := pu_sucks (n := n) (by omega) row al hF hkd x3 hh hk
      obtain ⟨a, b⟩ := sk_le al nf kd hh hk
      obtain ⟨y1, y2, y3, E⟩ := ih (i + 1) q (sk al nf kd h k).1 (sk al nf kd h k).2 (offI kd (sk al nf kd h k).1) (by omega) a (by omega)
      refine ⟨y1, y2, y3, ?_⟩
      unfold fX8_minutesOf_20
      simp (disch := omega) only [Nat.zero_add, qa, qb, qbb, qc, qd, qe, qf, qg, Option.bind_some, reduceIte, or_false, false_or, or_self, or_true, true_or, and_true, true_and, and_false, false_and, not_true_eq_false, not_false_eq_true, q4, d, hs, Bool.false_eq_true]
      exact E
theorem pu_minutesOf {n : Nat} (hn : 400 ≤ n) {row : Nat → Int32} {nf : Nat} {al : Nat → Nat} (hF : fctM row nf al) {kd lo ke m k : Nat} (hkd : kd < 5) (hm : m < 4) (hr : row m = nI k) (hk : k < 4096) (hl : lo < 4096) (hke : ke < 4096) (x1 x2 x3 : Int32) :
    ∃ y1 y2 y3, fX8_minutesOf n row x1 x2 x3 (nI m) (nI kd) (nI lo) (nI ke) = some (muI (mnS al nf kd lo ke 21 0 (0, k)), y1, y2, y3) := by
  obtain ⟨y1, y2, y3, E⟩ := pu_mo_loop hn hF (kd := kd) hkd hl hke 21 0 (n - 22) 0 k x3 (by omega) (by omega) hk
  have e : n - 22 + 21 + 1 = n := by omega
  rw [e] at E
  refine ⟨y1, y2, y3, ?_⟩
  unfold fX8_minutesOf
  simp (disch := omega) only [Nat.zero_add, qa, qb, qbb, qc, qd, qe, qf, qg, Option.bind_some, reduceIte, or_false, false_or, or_self, or_true, true_or, and_true, true_and, and_false, false_and, not_true_eq_false, not_false_eq_true, hr]
  exact E
/-- the fewest minutes (0: none) and the kind (0: none) -/
def snS (al : Nat → Nat) (nf lo ke k : Nat) : Nat → Nat → Nat × Nat → Nat × Nat
  | 0, _, p => p
  | t + 1, i, p => snS al nf lo ke k t (i + 1) (if mnS al nf i lo ke 21 0 (0, k) = 0 ∨ (p.1 ≠ 0 ∧ p.1 ≤ mnS al nf i lo ke 21 0 (0, k)) then p else (mnS al nf i lo ke 21 0 (0, k), i + 1))
theorem snS_s (al : Nat → Nat) (nf lo ke k t i : Nat) (p : Nat × Nat) : snS al nf lo ke k (t + 1) i p = snS al nf lo ke k t (i + 1) (if mnS al nf i lo ke 21 0 (0, k) = 0 ∨ (p.1 ≠ 0 ∧ p.1 ≤ mnS al nf i lo ke 21 0 (0, k)) then p else (mnS al nf i lo ke 21 0 (0, k), i + 1)) := rfl
theorem onI_ne0 {x : Nat} (h : x ≠ 0) : onI x = nI (x - 1) := if_neg h
theorem pu_sn7_loop {n : Nat} (hn : 400 ≤ n) {lw kn : Nat → Int32} {al : Nat → Nat} {nf : Nat} (hnf : nf ≤ 12) (hC : fctC lw nf al) {lo ke m k w : Nat} (hm : m < 4) (hkn : kn m = nI k) (hk : k < 2 ^ nf) (hl : lo < 4096) (hke : ke < 4096) (hw : w < 2) (p1 p2 : Int32) : ∀ (t i q : Nat) (p : Nat × Nat) (R : rmT), i + t = 5 → p.1 ≤ 21 → p.2 ≤ 5 →
    ∃ R' : rmT, fX7_soonest_59 n p1 p2 kn lw (q + t + 1) R.1 R.2.1 R.2.2.1 R.2.2.2.1 R.2.2.2.2.1 R.2.2.2.2.2.1 R.2.2.2.2.2.2.1 R.2.2.2.2.2.2.2 (nI m) (nI lo) (nI ke) (nI w) (onI p.1) (onI p.2) (nI i) = some (onI (if w = 0 then (snS al nf lo ke k t i p).1 else (snS al nf lo ke k t i p).2), R'.1, R'.2.1, R'.2.2.1, R'.2.2.2.1, R'.2.2.2.2.1, R'.2.2.2.2.2.1, R'.2.2.2.2.2.2.1, R'.2.2.2.2.2.2.2) := by
  intro t
  induction t with
  | zero =>
    intro i q p R hi h1 h2
    refine ⟨R, ?_⟩
    unfold fX7_soonest_59 fX7_soonest_129
    by_cases d : w = 0
    · simp (disch := omega) only [Nat.zero_add, qa, qb, qbb, qc, qd, qe, qf, qg, Option.bind_some, reduceIte, or_false, false_or, or_self, or_true, true_or, and_true, true_and, and_false, false_and, not_true_eq_false, not_false_eq_true, if_pos d]
      rfl
    · simp (disch := omega) only [Nat.zero_add, qa, qb, qbb, qc, qd, qe, qf, qg, Option.bind_some, reduceIte, or_false, false_or, or_self, or_true, true_or, and_true, true_and, and_false, false_and, not_true_eq_false, not_false_eq_true, if_neg d]
      rfl
  | succ t ih =>
    intro i q p R hi h1 h2
    obtain ⟨R1, E1⟩ := pu_minutesAlone hn hnf hC (kd := i) (by omega) hk hl hke R
    have hx := mnS_le al nf i lo ke 21 0 (0, k)
    have e : q + (t + 1) + 1 = (q + t + 1) + 1 := by omega
    rw [e, snS_s]
    generalize mnS al nf i lo ke 21 0 (0, k) = x at E1 hx
    by_cases d : x = 0 ∨ (p.1 ≠ 0 ∧ p.1 ≤ x)
    · rw [if_pos d]
      obtain ⟨R2, E2⟩ := ih (i + 1) q p R1 (by omega) h1 h2
      refine ⟨R2, ?_⟩
      unfold fX7_soonest_59 fX7_soonest_111
      by_cases d1 : x = 0
      · subst d1
        simp (disch := omega) only [Nat.zero_add, qa, qb, qbb, qc, qd, qe, qf, qg, Option.bind_some, reduceIte, or_false, false_or, or_self, or_true, true_or, and_true, true_and, and_false, false_and, not_true_eq_false, not_false_eq_true, hkn, E1]
        exact E2
      · by_cases d2 : p.1 = 0
        · omega
        · rw [onI_ne0 d1] at E1
          have e2 := onI_ne0 d2
          rw [e2] at E2 ⊢
          simp (disch := omega) only [Nat.zero_add, qa, qb, qbb, qc, qd, qe, qf, qg, Option.bind_some, reduceIte, or_false, false_or, or_self, or_true, true_or, and_true, true_and, and_false, false_and, not_true_eq_false, not_false_eq_true, hkn, E1]
          exact E2
    · rw [if_neg d]
      obtain ⟨R2, E2⟩ := ih (i + 1) q (x, i + 1) R1 (by omega) (by omega) (by show i + 1 ≤ 5; omega)
      dsimp only at E2
      refine ⟨R2, ?_⟩
      unfold fX7_soonest_59 fX7_soonest_103 fX7_soonest_111
      have d1 : x ≠ 0 := fun z => d (Or.inl z)
      rw [onI_ne0 d1] at E1 E2
      rw [onI_s] at E2
      by_cases d2 : p.1 = 0
      · rw [d2]
        simp (disch := omega) only [Nat.zero_add, qa, qb, qbb, qc, qd, qe, qf, qg, Option.bind_some, reduceIte, or_false, false_or, or_self, or_true, true_or, and_true, true_and, and_false, false_and, not_true_eq_false, not_false_eq_true, hkn, E1]
        exact E2
      · have e2 := onI_ne0 d2
        rw [e2]
        simp (disch := omega) only [Nat.zero_add, qa, qb, qbb, qc, qd, qe, qf, qg, Option.bind_some, reduceIte, or_false, false_or, or_self, or_true, true_or, and_true, true_and, and_false, false_and, not_true_eq_false, not_false_eq_true, hkn, E1]
        exact E2
theorem muI_0 : muI 0 = nI 99999 := rfl
theorem muI_ne0 {x : Nat} (h : x ≠ 0) : muI x = nI (x - 1) := if_neg h
theorem pu_sn8_loop {n : Nat} (hn : 400 ≤ n) {row : Nat → Int32} {nf : Nat} {al : Nat → Nat} (hF : fctM row nf al) {lo ke m k w : Nat} (hm : m < 4) (hr : row m = nI k) (hk : k < 4096) (hl : lo < 4096) (hke : ke < 4096) (hw : w < 2) : ∀ (t i q : Nat) (p : Nat × Nat) (x1 x2 x3 : Int32), i + t = 5 → p.1 ≤ 21 → p.2 ≤ 5 → (p.1 = 0 ↔ p.2 = 0) →
    ∃ y1 y2 y3, fX8_soonest_52 n row (q + t + 1) x1 x2 x3 (nI m) (nI lo) (nI ke) (nI w) (onI p.2) (muI p.1) (nI i) = some (onI (if w = 0 then (snS al nf lo ke k t i p).1 else (snS al nf lo ke k t i p).2), y1, y2, y3) := by
  intro t
  induction t with
  | zero =>
    intro i q p x1 x2 x3 hi h1 h2 h3
    refine ⟨x1, x2, x3, ?_⟩
    show _ = some (onI (if w = 0 then p.1 else p.2), x1, x2, x3)
    unfold fX8_soonest_52 fX8_soonest_129
    by_cases d : p.1 = 0
    · have d' := h3.mp d
      rw [d', d]
      by_cases dw : w = 0
      · simp (disch := omega) only [Nat.zero_add, qa, qb, qbb, qc, qd, qe, qf, qg, Option.bind_some, reduceIte, or_false, false_or, or_self, or_true, true_or, and_true, true_and, and_false, false_and, not_true_eq_false, not_false_eq_true, if_pos dw]
      · simp (disch := omega) only [Nat.zero_add, qa, qb, qbb, qc, qd, qe, qf, qg, Option.bind_some, reduceIte, or_false, false_or, or_self, or_true, true_or, and_true, true_and, and_false, false_and, not_true_eq_false, not_false_eq_true, if_neg dw]
    · have d' : p.2 ≠ 0 := fun z => d (h3.mpr z)
      rw [onI_ne0 d', muI_ne0 d]
      by_cases dw : w = 0
      · simp (disch := omega) only [Nat.zero_add, qa, qb, qbb, qc, qd, qe, qf, qg, Option.bind_some, reduceIte, or_false, false_or, or_self, or_true, true_or, and_true, true_and, and_false, false_and, not_true_eq_false, not_false_eq_true, if_pos dw, onI_ne0 d]
      · simp (disch := omega) only [Nat.zero_add, qa, qb, qbb, qc, qd, qe, qf, qg, Option.bind_some, reduceIte, or_false, false_or, or_self, or_true, true_or, and_true, true_and, and_false, false_and, not_true_eq_false, not_false_eq_true, if_neg dw, onI_ne0 d']
  | succ t ih =>
    intro i q p x1 x2 x3 hi h1 h2 h3
    obtain ⟨z1, z2, z3, E1⟩ := pu_minutesOf hn hF (kd := i) (by omega) hm hr hk hl hke x1 x2 x3
    have hx := mnS_le al nf i lo ke 21 0 (0, k)
    have e : q + (t + 1) + 1 = (q + t + 1) + 1 := by omega
    rw [e, snS_s]
    generalize mnS al nf i lo ke 21 0 (0, k) = x at E1 hx
    by_cases d : x = 0 ∨ (p.1 ≠ 0 ∧ p.1 ≤ x)
    · rw [if_pos d]
      obtain ⟨y1, y2, y3, E2⟩ := ih (i + 1) q p z1 z2 z3 (by omega) h1 h2 h3
      refine ⟨y1, y2, y3, ?_⟩
      unfold fX8_soonest_52 fX8_soonest_83 fX8_soonest_99
      by_cases d2 : p.1 = 0
      · have d1 : x = 0 := by omega
        subst d1
        rw [d2, muI_0] at E2 ⊢
        rw [muI_0] at E1
        simp (disch := omega) only [Nat.zero_add, qa, qb, qbb, qc, qd, qe, qf, qg, Option.bind_some, reduceIte, or_false, false_or, or_self, or_true, true_or, and_true, true_and, and_false, false_and, not_true_eq_false, not_false_eq_true, E1]
        exact E2
      · rw [muI_ne0 d2] at E2 ⊢
        by_cases d1 : x = 0
        · subst d1
          rw [muI_0] at E1
          simp (disch := omega) only [Nat.zero_add, qa, qb, qbb, qc, qd, qe, qf, qg, Option.bind_some, reduceIte, or_false, false_or, or_self, or_true, true_or, and_true, true_and, and_false, false_and, not_true_eq_false, not_false_eq_true, E1]
          exact E2
        · rw [muI_ne0 d1] at E1
          simp (disch := omega) only [Nat.zero_add, qa, qb, qbb, qc, qd, qe, qf, qg, Option.bind_some, reduceIte, or_false, false_or, or_self, or_true, true_or, and_true, true_and, and_false, false_and, not_true_eq_false, not_false_eq_true, E1]
          exact E2
    · rw [if_neg d]
      have d1 : x ≠ 0 := fun z => d (Or.inl z)
      obtain ⟨y1, y2, y3, E2⟩ := ih (i + 1) q (x, i + 1) z1 z2 z3 (by omega) (by omega) (by show i + 1 ≤ 5; omega) ⟨fun z => absurd z d1, fun z => absurd z (Nat.succ_ne_zero i)⟩
      dsimp only at E2
      refine ⟨y1, y2, y3, ?_⟩
      unfold fX8_soonest_52 fX8_soonest_83 fX8_soonest_99
      rw [muI_ne0 d1] at E1 E2
      rw [onI_s] at E2
      by_cases d2 : p.1 = 0
      · rw [d2, muI_0]
        simp (disch := omega) only [Nat.zero_add, qa, qb, qbb, qc, qd, qe, qf, qg, Option.bind_some, reduceIte, or_false, false_or, or_self, or_true, true_or, and_true, true_and, and_false, false_and, not_true_eq_false, not_false_eq_true, E1]
        exact E2
      · rw [muI_ne0 d2]
        simp (disch := omega) only [Nat.zero_add, qa, qb, qbb, qc, qd, qe, qf, qg, Option.bind_some, reduceIte, or_false, false_or, or_self, or_true, true_or, and_true, true_and, and_false, false_and, not_true_eq_false, not_false_eq_true, E1]
        exact E2
theorem pu_hasBitsG (n : Nat) {N : Nat} (hN : N ≤ 12) (v : Int32) : fX0_hasBits n (nI N) v = some (inG v (2 ^ N)) := by
  unfold fX0_hasBits fX0_hasBits_18 fX0_hasBits_19 inG
  rw [pu_1shl (by omega)]
  by_cases c : v < 0
  · rw [if_pos c, if_pos (Or.inl c), if_pos (Or.inl rfl)]
  · rw [if_neg c]
    by_cases d : nI (2 ^ N) ≤ v
    · rw [if_pos d, if_pos (Or.inr d), if_pos (Or.inl rfl)]
    · rw [if_neg d, if_pos (Or.inr rfl), if_neg (show ¬ (v < 0 ∨ nI (2 ^ N) ≤ v) from fun q => q.elim c d)]
/-- the call soonest -/
theorem pu_soonest {n nf nm nl u c : Nat} {le al kd : Nat → Nat} {N T : rmT} {A K : paT} {row lw : Nat → Int32} (hn : 400 ≤ n) (hC : fctC lw nf al) (h : relW nf nm nl le al kd N T u A c K row) (R : rmT) (w1 w2 w3 v1 v2 v3 v4 : Int32) :
    ∃ (r : Int32) (R' : rmT) (w1' w2' w3' : Int32),
      fX7_soonest n N.1 (nI nf) N.2.2.2.2.1 lw R.1 R.2.1 R.2.2.1 R.2.2.2.1 R.2.2.2.2.1 R.2.2.2.2.2.1 R.2.2.2.2.2.2.1 R.2.2.2.2.2.2.2 v1 v2 v3 v4 = some (r, R'.1, R'.2.1, R'.2.2.1, R'.2.2.2.1, R'.2.2.2.2.1, R'.2.2.2.2.2.1, R'.2.2.2.2.2.2.1, R'.2.2.2.2.2.2.2) ∧ fX8_soonest n row w1 w2 w3 v1 v2 v3 v4 = some (r, w1', w2', w3') := by
  obtain ⟨o, hnm, hnl, ⟨zb, zm, s, ⟨hb, hm, s1, s2, s3⟩, ⟨x1, x2, x3, x4, x5, x6, x7, x8⟩, hy⟩, hrest⟩ := id h
  rw [relY0_eq] at hy
  obtain ⟨⟨y1, y2⟩, ⟨y3, y4, y5, y6, y7, y8⟩, y9, y10⟩ := id hy
  have hnf := o.1
  have hp : 2 ^ nf ≤ 2 ^ 12 := Nat.pow_le_pow_right (by decide) hnf
  have i16 := fun v => pu_isMember n (row := row) (N := nm) (by omega) y3 v
  have i23 := fun v => pu_areFacts n (row := row) (N := nf) hnf y1 v
  have j23 := fun v => pu_hasBitsG n hnf v
  rcases inG_cas v1 (N := nm) (by omega) with g | ⟨m, hmm, rfl, g⟩
  · refine ⟨-nI 2, R, w1, w2, w3, ?_, ?_⟩
    · unfold fX7_soonest fX7_soonest_33
      simp (disch := omega) only [Nat.zero_add, qa, qb, qbb, qc, qd, qe, qf, qg, Option.bind_some, reduceIte, or_false, false_or, or_self, or_true, true_or, and_true, true_and, and_false, false_and, not_true_eq_false, not_false_eq_true, g, x1]
    · unfold fX8_soonest fX8_soonest_24
      simp (disch := omega) only [Nat.zero_add, qa, qb, qbb, qc, qd, qe, qf, qg, Option.bind_some, reduceIte, or_false, false_or, or_self, or_true, true_or, and_true, true_and, and_false, false_and, not_true_eq_false, not_false_eq_true, g, i16]
  · rcases inG_cas v2 (N := 2 ^ nf) (by omega) with g2 | ⟨lo, hlo, rfl, g2⟩
    · refine ⟨-nI 2, R, w1, w2, w3, ?_, ?_⟩
      · unfold fX7_soonest fX7_soonest_33
        simp (disch := omega) only [Nat.zero_add, qa, qb, qbb, qc, qd, qe, qf, qg, Option.bind_some, reduceIte, or_false, false_or, or_self, or_true, true_or, and_true, true_and, and_false, false_and, not_true_eq_false, not_false_eq_true, g, g2, j23, x1]
      · unfold fX8_soonest fX8_soonest_24
        simp (disch := omega) only [Nat.zero_add, qa, qb, qbb, qc, qd, qe, qf, qg, Option.bind_some, reduceIte, or_false, false_or, or_self, or_true, true_or, and_true, true_and, and_false, false_and, not_true_eq_false, not_false_eq_true, g, g2, i16, i23]
    · rcases inG_cas v3 (N := 2 ^ nf) (by omega) with g3 | ⟨ke, hke, rfl, g3⟩
      · refine ⟨-nI 2, R, w1, w2, w3, ?_, ?_⟩
        · unfold fX7_soonest fX7_soonest_33
          simp (disch := omega) only [Nat.zero_add, qa, qb, qbb, qc, qd, qe, qf, qg, Option.bind_some, reduceIte, or_false, false_or, or_self, or_true, true_or, and_true, true_and, and_false, false_and, not_true_eq_false, not_false_eq_true, g, g2, g3, j23, x1]
        · unfold fX8_soonest fX8_soonest_24
          simp (disch := omega) only [Nat.zero_add, qa, qb, qbb, qc, qd, qe, qf, qg, Option.bind_some, reduceIte, or_false, false_or, or_self, or_true, true_or, and_true, true_and, and_false, false_and, not_true_eq_false, not_false_eq_true, g, g2, g3, i16, i23]
      · have l1 := lt4096 hnf hlo
        have l2 := lt4096 hnf hke
        have l3 := lt4096 hnf (s2 m hmm)
        rcases q_cas v4 (a := 0) (N := 2) (by omega) (by omega) with ⟨w, -, hw, rfl⟩ | g4 | ⟨g4, -, -, g5, g6⟩
        · obtain ⟨R', E1⟩ := pu_sn7_loop hn (kn := N.2.2.2.2.1) hnf hC (m := m) (by omega) (x7 m hmm) (s2 m hmm) l1 l2 hw (nI nm) (nI nf) 5 0 (n - 6) (0, 0) R (by omega) (by omega) (by omega)
          obtain ⟨y1', y2', y3', E2⟩ := pu_sn8_loop hn (fctM_of o hy) (m := m) (by omega) (y7 m hmm) l3 l1 l2 hw 5 0 (n - 6) (0, 0) w1 w2 w3 (by omega) (by omega) (by omega) Iff.rfl
          have e : n - 6 + 5 + 1 = n := by omega
          rw [e] at E1 E2
          dsimp only at E1 E2
          rw [muI_0] at E2
          refine ⟨onI (if w = 0 then (snS al nf lo ke (s.2.1 m) 5 0 (0, 0)).1 else (snS al nf lo ke (s.2.1 m) 5 0 (0, 0)).2), R', y1', y2', y3', ?_, ?_⟩
          rotate_left
          · unfold fX8_soonest
            simp (disch := omega) only [Nat.zero_add, qa, qb, qbb, qc, qd, qe, qf, qg, Option.bind_some, reduceIte, or_false, false_or, or_self, or_true, true_or, and_true, true_and, and_false, false_and, not_true_eq_false, not_false_eq_true, g, g2, g3, i16, i23]
            exact E2
          · unfold fX7_soonest
            simp (disch := omega) only [Nat.zero_add, qa, qb, qbb, qc, qd, qe, qf, qg, Option.bind_some, reduceIte, or_false, false_or, or_self, or_true, true_or, and_true, true_and, and_false, false_and, not_true_eq_false, not_false_eq_true, g, g2, g3, j23, x1]
            exact E1
        · refine ⟨-nI 3, R, w1, w2, w3, ?_, ?_⟩
          · unfold fX7_soonest fX7_soonest_47
            simp (disch := omega) only [Nat.zero_add, qa, qb, qbb, qc, qd, qe, qf, qg, Option.bind_some, reduceIte, or_false, false_or, or_self, or_true, true_or, and_true, true_and, and_false, false_and, not_true_eq_false, not_false_eq_true, g, g2, g3, j23, x1, g4]
          · unfold fX8_soonest
            simp (disch := omega) only [Nat.zero_add, qa, qb, qbb, qc, qd, qe, qf, qg, Option.bind_some, reduceIte, or_false, false_or, or_self, or_true, true_or, and_true, true_and, and_false, false_and, not_true_eq_false, not_false_eq_true, g, g2, g3, i16, i23, g4]
        · refine ⟨-nI 3, R, w1, w2, w3, ?_, ?_⟩
          · unfold fX7_soonest fX7_soonest_47
            simp (disch := omega) only [Nat.zero_add, qa, qb, qbb, qc, qd, qe, qf, qg, Option.bind_some, reduceIte, or_false, false_or, or_self, or_true, true_or, and_true, true_and, and_false, false_and, not_true_eq_false, not_false_eq_true, g, g2, g3, j23, x1, g4, g5]
          · unfold fX8_soonest
            simp (disch := omega) only [Nat.zero_add, qa, qb, qbb, qc, qd, qe, qf, qg, Option.bind_some, reduceIte, or_false, false_or, or_self, or_true, true_or, and_true, true_and, and_false, false_and, not_true_eq_false, not_false_eq_true, g, g2, g3, i16, i23, g4, g6]
