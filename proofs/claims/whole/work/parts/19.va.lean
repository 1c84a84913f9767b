/-- of the kinds of a set, how many leave him knowing f -/
def askB (al : Nat → Nat) (nf st t k f kd : Nat) : Bool := st.testBit kd && (KA al nf kd t k).testBit f
theorem pcN_mono (a : Nat) : ∀ (j i : Nat), pcN a i ≤ pcN a (i + j) := by
  intro j
  induction j with
  | zero => intro i; exact Nat.le_refl _
  | succ j ih =>
    intro i
    have := ih i
    show pcN a i ≤ pcN a (i + j) + _
    omega
theorem cntB_pc {p : Nat → Bool} {a : Nat} (h : ∀ i, p i = true → a.testBit i = true) : ∀ i, cntB p i ≤ pcN a i := by
  intro i
  induction i with
  | zero => exact Nat.le_refl _
  | succ i ih =>
    show cntB p i + (if p i = true then 1 else 0) ≤ pcN a i + (if a.testBit i = true then 1 else 0)
    by_cases c : p i = true
    · rw [if_pos c, if_pos (h i c)]; omega
    · rw [if_neg c]; omega
theorem askB_pc (al : Nat → Nat) (nf st t k f : Nat) : cntB (askB al nf st t k f) 5 ≤ pc st := by
  have h1 : cntB (askB al nf st t k f) 5 ≤ pcN st 5 := cntB_pc (fun i hi => by unfold askB at hi; simp at hi; exact hi.1) 5
  have h2 := pcN_mono st 7 5
  exact Nat.le_trans h1 h2
/-- the greater part -/
def grS (a b : Nat) : Nat := if a < b then b else a
theorem pu_gp_loop {n : Nat} (hn : 400 ≤ n) {lw : Nat → Int32} {al : Nat → Nat} {nf st T k f : Nat} (hnf : nf ≤ 12) (hC : fctC lw nf al) (hst : st < 4096) (hT : T ≤ 6) (hk : k < 2 ^ nf) (hf : f < 12) : ∀ (t i q : Nat) (R : rmT), i + t = 5 →
    ∃ R' : rmT, fX7_greatestPart_6 n lw (q + t + 1) R.1 R.2.1 R.2.2.1 R.2.2.2.1 R.2.2.2.2.1 R.2.2.2.2.2.1 R.2.2.2.2.2.2.1 R.2.2.2.2.2.2.2 (nI k) (nI T) (nI f) (nI st) (nI (cntB (askB al nf st T k f) i)) (nI i) = some (nI (grS (cntB (askB al nf st T k f) 5) (pc st - cntB (askB al nf st T k f) 5)), R'.1, R'.2.1, R'.2.2.1, R'.2.2.2.1, R'.2.2.2.2.1, R'.2.2.2.2.2.1, R'.2.2.2.2.2.2.1, R'.2.2.2.2.2.2.2) := by
  intro t
  induction t with
  | zero =>
    intro i q R hi
    have : i = 5 := by omega
    subst this
    have h1 := askB_pc al nf st T k f
    have h2 := pc_le st
    refine ⟨R, ?_⟩
    unfold fX7_greatestPart_6 grS
    generalize cntB (askB al nf st T k f) 5 = x at h1
    by_cases d : x < pc st - x
    · rw [if_pos d]
      simp (disch := omega) only [Nat.zero_add, qa, qb, qbb, qc, qd, qe, qf, qg, Option.bind_some, reduceIte, or_false, false_or, or_self, or_true, true_or, and_true, true_and, and_false, false_and, not_true_eq_false, not_false_eq_true]
    · rw [if_neg d]
      simp (disch := omega) only [Nat.zero_add, qa, qb, qbb, qc, qd, qe, qf, qg, Option.bind_some, reduceIte, or_false, false_or, or_self, or_true, true_or, and_true, true_and, and_false, false_and, not_true_eq_false, not_false_eq_true]
  | succ t ih =>
    intro i q R hi
    have k4 := lt4096 hnf hk
    have k5 := KA_le al nf i T k4
    have e : q + (t + 1) + 1 = (q + t + 1) + 1 := by omega
    have hle : cntB (askB al nf st T k f) i ≤ 12 := by
      have : ∀ j, cntB (askB al nf st T k f) j ≤ j := by
        intro j
        induction j with
        | zero => exact Nat.le_refl _
        | succ j ih =>
          show cntB (askB al nf st T k f) j + (if askB al nf st T k f j = true then 1 else 0) ≤ j + 1
          split <;> omega
      have := this i
      omega
    rw [e]
    unfold fX7_greatestPart_6 fX7_greatestPart_40
    by_cases d : st.testBit i = true
    · obtain ⟨R1, E1⟩ := pu_kaa hn hnf hC (kd := i) (by omega) hk (t := T) (by omega) R
      obtain ⟨R', E2⟩ := ih (i + 1) q R1 (by omega)
      refine ⟨R', ?_⟩
      by_cases b : (KA al nf i T k).testBit f = true
      · rw [cntB_1 (by unfold askB; rw [d, b]; rfl)] at E2
        simp (disch := omega) only [Nat.zero_add, qa, qb, qbb, qc, qd, qe, qf, qg, Option.bind_some, reduceIte, or_false, false_or, or_self, or_true, true_or, and_true, true_and, and_false, false_and, not_true_eq_false, not_false_eq_true, d, E1, b]
        exact E2
      · rw [cntB_0 (by unfold askB; rw [d]; simpa using b)] at E2
        simp (disch := omega) only [Nat.zero_add, qa, qb, qbb, qc, qd, qe, qf, qg, Option.bind_some, reduceIte, or_false, false_or, or_self, or_true, true_or, and_true, true_and, and_false, false_and, not_true_eq_false, not_false_eq_true, d, E1, b, Bool.false_eq_true]
        exact E2
    · obtain ⟨R', E2⟩ := ih (i + 1) q R (by omega)
      refine ⟨R', ?_⟩
      rw [cntB_0 (by unfold askB; simp at d; rw [d]; simp)] at E2
      simp (disch := omega) only [Nat.zero_add, qa, qb, qbb, qc, qd, qe, qf, qg, Option.bind_some, reduceIte, or_false, false_or, or_self, or_true, true_or, and_true, true_and, and_false, false_and, not_true_eq_false, not_false_eq_true, d, Bool.false_eq_true]
      exact E2
theorem pu_gp {n : Nat} (hn : 400 ≤ n) {lw : Nat → Int32} {al : Nat → Nat} {nf st T k f : Nat} (hnf : nf ≤ 12) (hC : fctC lw nf al) (hst : st < 4096) (hT : T ≤ 6) (hk : k < 2 ^ nf) (hf : f < 12) (R : rmT) :
    ∃ R' : rmT, fX7_greatestPart n lw R.1 R.2.1 R.2.2.1 R.2.2.2.1 R.2.2.2.2.1 R.2.2.2.2.2.1 R.2.2.2.2.2.2.1 R.2.2.2.2.2.2.2 (nI k) (nI T) (nI f) (nI st) = some (nI (grS (cntB (askB al nf st T k f) 5) (pc st - cntB (askB al nf st T k f) 5)), R'.1, R'.2.1, R'.2.2.1, R'.2.2.2.1, R'.2.2.2.2.1, R'.2.2.2.2.2.1, R'.2.2.2.2.2.2.1, R'.2.2.2.2.2.2.2) := by
  obtain ⟨R', E⟩ := pu_gp_loop hn hnf hC hst hT hk hf 5 0 (n - 6) R (by omega)
  have e : n - 6 + 5 + 1 = n := by omega
  rw [e] at E
  exact ⟨R', E⟩
/-- best (0: none) and least -/
def akS (g : Nat → Nat) : Nat → Nat → Nat × Nat → Nat × Nat
  | 0, _, p => p
  | t + 1, i, p => akS g t (i + 1) (if p.2 ≤ g i then p else (i + 1, g i))
theorem akS_s (g : Nat → Nat) (t i : Nat) (p : Nat × Nat) : akS g (t + 1) i p = akS g t (i + 1) (if p.2 ≤ g i then p else (i + 1, g i)) := rfl
def gpF (al : Nat → Nat) (nf st T k : Nat) (f : Nat) : Nat := grS (cntB (askB al nf st T k f) 5) (pc st - cntB (askB al nf st T k f) 5)
theorem gpF_le (al : Nat → Nat) (nf st T k f : Nat) : gpF al nf st T k f ≤ 12 := by
  have h1 := askB_pc al nf st T k f
  have h2 := pc_le st
  unfold gpF grS
  split <;> omega
theorem pu_ak7 {n : Nat} (hn : 400 ≤ n) {lw kn a1 a2 a3 a4 : Nat → Int32} {al : Nat → Nat} {nf st T k m : Nat} (hnf : nf ≤ 12) (hC : fctC lw nf al) (hst : st < 4096) (hT : T ≤ 6) (hm : m < 4) (hkn : kn m = nI k) (hk : k < 2 ^ nf) (p1 p2 : Int32) : ∀ (t i q : Nat) (p : Nat × Nat) (R : rmT), i + t = nf → p.2 ≤ 12 →
    ∃ R' : rmT, fX7_ask_45 n p1 p2 a1 kn a2 lw a3 a4 (nI nf) (q + t + 1) R.1 R.2.1 R.2.2.1 R.2.2.2.1 R.2.2.2.2.1 R.2.2.2.2.2.1 R.2.2.2.2.2.2.1 R.2.2.2.2.2.2.2 (nI m) (nI T) (nI st) (onI p.1) (nI p.2) (nI i) = some (onI (akS (gpF al nf st T k) t i p).1, R'.1, R'.2.1, R'.2.2.1, R'.2.2.2.1, R'.2.2.2.2.1, R'.2.2.2.2.2.1, R'.2.2.2.2.2.2.1, R'.2.2.2.2.2.2.2) := by
  intro t
  induction t with
  | zero =>
    intro i q p R hi hp
    refine ⟨R, ?_⟩
    unfold fX7_ask_45
    simp (disch := omega) only [Nat.zero_add, qa, qb, qbb, qc, qd, qe, qf, qg, Option.bind_some, reduceIte, or_false, false_or, or_self, or_true, true_or, and_true, true_and, and_false, false_and, not_true_eq_false, not_false_eq_true]
    rfl
  | succ t ih =>
    intro i q p R hi hp
    obtain ⟨R1, E1⟩ := pu_gp hn hnf hC hst hT hk (f := i) (by omega) R
    have hg := gpF_le al nf st T k i
    have E1' : fX7_greatestPart n lw R.1 R.2.1 R.2.2.1 R.2.2.2.1 R.2.2.2.2.1 R.2.2.2.2.2.1 R.2.2.2.2.2.2.1 R.2.2.2.2.2.2.2 (nI k) (nI T) (nI i) (nI st) = some (nI (gpF al nf st T k i), R1.1, R1.2.1, R1.2.2.1, R1.2.2.2.1, R1.2.2.2.2.1, R1.2.2.2.2.2.1, R1.2.2.2.2.2.2.1, R1.2.2.2.2.2.2.2) := E1
    have e : q + (t + 1) + 1 = (q + t + 1) + 1 := by omega
    rw [e, akS_s]
    unfold fX7_ask_45 fX7_ask_91
    by_cases d : p.2 ≤ gpF al nf st T k i
    · rw [if_pos d]
      obtain ⟨R', E2⟩ := ih (i + 1) q p R1 (by omega) hp
      refine ⟨R', ?_⟩
      simp (disch := omega) only [Nat.zero_add, qa, qb, qbb, qc, qd, qe, qf, qg, Option.bind_some, reduceIte, or_false, false_or, or_self, or_true, true_or, and_true, true_and, and_false, false_and, not_true_eq_false, not_false_eq_true, hkn, E1']
      exact E2
    · rw [if_neg d]
      obtain ⟨R', E2⟩ := ih (i + 1) q (i + 1, gpF al nf st T k i) R1 (by omega) hg
      refine ⟨R', ?_⟩
      dsimp only at E2
      rw [onI_s] at E2
      simp (disch := omega) only [Nat.zero_add, qa, qb, qbb, qc, qd, qe, qf, qg, Option.bind_some, reduceIte, or_false, false_or, or_self, or_true, true_or, and_true, true_and, and_false, false_and, not_true_eq_false, not_false_eq_true, hkn, E1']
      exact E2
theorem pu_a61 {n : Nat} (hn : 400 ≤ n) {row b1 b2 b3 b4 : Nat → Int32} {al : Nat → Nat} {nf st T k m f : Nat} (hF : fctM row nf al) (hst : st < 4096) (hT : T ≤ 6) (hm : m < 4) (hr : row m = nI k) (hk : k < 2 ^ nf) (hf : f < 12) (p1 : Int32) (r43 : Int32 → Int32 → Int32 → Int32 → Int32 → Int32 → Int32 → Int32 → Int32 → Option (Int32 × Int32 × Int32 × Int32)) (be le' : Nat) (hle : le' ≤ 12) : ∀ (t i q : Nat) (x1 x2 x3 : Int32), i + t = 5 →
    ∃ y1 y2 y3, fX8_ask_61 n r43 row p1 b1 b2 b3 b4 (q + t + 1) x1 x2 x3 (nI m) (nI T) (nI st) (onI be) (nI le') (nI f) (nI (cntB (askB al nf st T k f) i)) (nI i) =
      r43 y1 y2 y3 (nI m) (nI T) (nI st) (onI (if le' ≤ gpF al nf st T k f then be else f + 1)) (nI (if le' ≤ gpF al nf st T k f then le' else gpF al nf st T k f)) (nI (f + 1)) := by
  have hnf := hF.1
  intro t
  induction t with
  | zero =>
    intro i q x1 x2 x3 hi
    have : i = 5 := by omega
    subst this
    have h1 := askB_pc al nf st T k f
    have h2 := pc_le st
    have hb := pu_bits (n := n) (by omega) (a := st) (by omega)
    refine ⟨x1, x2, x3, ?_⟩
    unfold fX8_ask_61 fX8_ask_132 fX8_ask_148 fX8_ask_164 gpF grS
    generalize cntB (askB al nf st T k f) 5 = x at h1
    by_cases d : x < pc st - x
    · rw [if_pos d]
      by_cases d2 : le' ≤ pc st - x
      · rw [if_pos d2, if_pos d2]
        simp (disch := omega) only [Nat.zero_add, qa, qb, qbb, qc, qd, qe, qf, qg, Option.bind_some, reduceIte, or_false, false_or, or_self, or_true, true_or, and_true, true_and, and_false, false_and, not_true_eq_false, not_false_eq_true, hb]
      · rw [if_neg d2, if_neg d2, onI_s]
        simp (disch := omega) only [Nat.zero_add, qa, qb, qbb, qc, qd, qe, qf, qg, Option.bind_some, reduceIte, or_false, false_or, or_self, or_true, true_or, and_true, true_and, and_false, false_and, not_true_eq_false, not_false_eq_true, hb]
    · rw [if_neg d]
      by_cases d3 : x ≤ pc st - x
      · have d4 : pc st - x = x := by omega
        by_cases d2 : le' ≤ x
        · rw [if_pos d2, if_pos d2]
          simp (disch := omega) only [Nat.zero_add, qa, qb, qbb, qc, qd, qe, qf, qg, Option.bind_some, reduceIte, or_false, false_or, or_self, or_true, true_or, and_true, true_and, and_false, false_and, not_true_eq_false, not_false_eq_true, hb, d4]
        · rw [if_neg d2, if_neg d2, onI_s]
          simp (disch := omega) only [Nat.zero_add, qa, qb, qbb, qc, qd, qe, qf, qg, Option.bind_some, reduceIte, or_false, false_or, or_self, or_true, true_or, and_true, true_and, and_false, false_and, not_true_eq_false, not_false_eq_true, hb, d4]
      · by_cases d2 : le' ≤ x
        · rw [if_pos d2, if_pos d2]
          simp (disch := omega) only [Nat.zero_add, qa, qb, qbb, qc, qd, qe, qf, qg, Option.bind_some, reduceIte, or_false, false_or, or_self, or_true, true_or, and_true, true_and, and_false, false_and, not_true_eq_false, not_false_eq_true, hb]
        · rw [if_neg d2, if_neg d2, onI_s]
          simp (disch := omega) only [Nat.zero_add, qa, qb, qbb, qc, qd, qe, qf, qg, Option.bind_some, reduceIte, or_false, false_or, or_self, or_true, true_or, and_true, true_and, and_false, false_and, not_true_eq_false, not_false_eq_true, hb]
  | succ t ih =>
    intro i q x1 x2 x3 hi
    have k4 := lt4096 hnf hk
    have k5 := KA_le al nf i T k4
    have e : q + (t + 1) + 1 = (q + t + 1) + 1 := by omega
    rw [e]
    unfold fX8_ask_61 fX8_ask_98 fX8_ask_99
    by_cases d : st.testBit i = true
    · obtain ⟨z1, z2, z3, E1⟩ := pu_kb hn hF (kd := i) (by omega) (T := T) (by omega) (by omega) hm hr k4 x1 x2 x3
      obtain ⟨y1, y2, y3, E2⟩ := ih (i + 1) q z1 z2 z3 (by omega)
      refine ⟨y1, y2, y3, ?_⟩
      by_cases b : (KA al nf i T k).testBit f = true
      · rw [cntB_1 (by unfold askB; rw [d, b]; rfl)] at E2
        simp (disch := omega) only [Nat.zero_add, qa, qb, qbb, qc, qd, qe, qf, qg, Option.bind_some, reduceIte, or_false, false_or, or_self, or_true, true_or, and_true, true_and, and_false, false_and, not_true_eq_false, not_false_eq_true, d, E1, b]
        exact E2
      · rw [cntB_0 (by unfold askB; rw [d]; simpa using b)] at E2
        simp (disch := omega) only [Nat.zero_add, qa, qb, qbb, qc, qd, qe, qf, qg, Option.bind_some, reduceIte, or_false, false_or, or_self, or_true, true_or, and_true, true_and, and_false, false_and, not_true_eq_false, not_false_eq_true, d, E1, b, Bool.false_eq_true, Nat.add_zero]
        exact E2
    · obtain ⟨y1, y2, y3, E2⟩ := ih (i + 1) q x1 x2 x3 (by omega)
      refine ⟨y1, y2, y3, ?_⟩
      rw [cntB_0 (by unfold askB; simp at d; rw [d]; simp)] at E2
      simp (disch := omega) only [Nat.zero_add, qa, qb, qbb, qc, qd, qe, qf, qg, Option.bind_some, reduceIte, or_false, false_or, or_self, or_true, true_or, and_true, true_and, and_false, false_and, not_true_eq_false, not_false_eq_true, d, Bool.false_eq_true, Nat.add_zero]
      exact E2
theorem pu_a43 {n : Nat} (hn : 400 ≤ n) {row b1 b2 b3 b4 : Nat → Int32} {al : Nat → Nat} {nf st T k m : Nat} (hF : fctM row nf al) (hst : st < 4096) (hT : T ≤ 6) (hm : m < 4) (hr : row m = nI k) (hk : k < 2 ^ nf) (p1 : Int32) : ∀ (t i q : Nat) (p : Nat × Nat) (x1 x2 x3 : Int32), i + t = nf → p.2 ≤ 12 →
    ∃ y1 y2 y3, fX8_ask_43 n row p1 b1 b2 b3 b4 (q + t + 1) x1 x2 x3 (nI m) (nI T) (nI st) (onI p.1) (nI p.2) (nI i) = some (onI (akS (gpF al nf st T k) t i p).1, y1, y2, y3) := by
  have hnf := hF.1
  have h23 := hF.2.1
  intro t
  induction t with
  | zero =>
    intro i q p x1 x2 x3 hi hp
    refine ⟨x1, x2, x3, ?_⟩
    unfold fX8_ask_43
    simp (disch := omega) only [Nat.zero_add, qa, qb, qbb, qc, qd, qe, qf, qg, Option.bind_some, reduceIte, or_false, false_or, or_self, or_true, true_or, and_true, true_and, and_false, false_and, not_true_eq_false, not_false_eq_true, h23]
    rfl
  | succ t ih =>
    intro i q p x1 x2 x3 hi hp
    have e : q + (t + 1) + 1 = (q + t + 1) + 1 := by omega
    have hg := gpF_le al nf st T k i
    obtain ⟨z1, z2, z3, E1⟩ := pu_a61 hn hF hst hT hm hr hk (f := i) (by omega) p1 (fX8_ask_43 n row p1 b1 b2 b3 b4 (q + t + 1)) p.1 p.2 hp 5 0 (n - 6) x1 x2 x3 (by omega)
    have en : n - 6 + 5 + 1 = n := by omega
    rw [en] at E1
    obtain ⟨y1, y2, y3, E2⟩ := ih (i + 1) q (if p.2 ≤ gpF al nf st T k i then p else (i + 1, gpF al nf st T k i)) z1 z2 z3 (by omega) (by split <;> assumption)
    have c1 : (if p.2 ≤ gpF al nf st T k i then p else (i + 1, gpF al nf st T k i)).1 = if p.2 ≤ gpF al nf st T k i then p.1 else i + 1 := by split <;> rfl
    have c2 : (if p.2 ≤ gpF al nf st T k i then p else (i + 1, gpF al nf st T k i)).2 = if p.2 ≤ gpF al nf st T k i then p.2 else gpF al nf st T k i := by split <;> rfl
    rw [c1, c2] at E2
    refine ⟨y1, y2, y3, ?_⟩
    rw [e, akS_s]
    unfold fX8_ask_43
    simp (disch := omega) only [Nat.zero_add, qa, qb, qbb, qc, qd, qe, qf, qg, Option.bind_some, reduceIte, or_false, false_or, or_self, or_true, true_or, and_true, true_and, and_false, false_and, not_true_eq_false, not_false_eq_true, h23]
    exact E1.trans E2
theorem colB_lt (p : Nat → Bool) : ∀ k, colB p k < 2 ^ k := by
  intro k
  induction k with
  | zero => exact (by decide : 0 < 2 ^ 0)
  | succ k ih =>
    have h2 : 2 ^ k < 2 ^ (k + 1) := Nat.pow_lt_pow_right (by decide) (by omega)
    refine Nat.or_lt_two_pow (by omega) ?_
    split
    · exact h2
    · exact Nat.pow_pos (by decide)
/-- the call ask -/
theorem pu_ask {n nf nm nl u c z : Nat} {le al kd : Nat → Nat} {N T : rmT} {A K : paT} {row lw a1 a2 a3 a4 b1 b2 b3 b4 : Nat → Int32} {S : Nat → Nat × Nat × Nat × Nat} (hn : 400 ≤ n) (hC : fctC lw nf al) (h : relW nf nm nl le al kd N T u A c K row) (hS : relS nf nm z S a1 a2 a3 a4 b1 b2 b3 b4) (R : rmT) (w1 w2 w3 v1 v2 : Int32) :
    ∃ (r : Int32) (R' : rmT) (w1' w2' w3' : Int32), fX7_ask n N.1 (nI z) a1 N.2.2.2.2.1 a2 lw a3 a4 (nI nf) R.1 R.2.1 R.2.2.1 R.2.2.2.1 R.2.2.2.2.1 R.2.2.2.2.2.1 R.2.2.2.2.2.2.1 R.2.2.2.2.2.2.2 v1 v2 = some (r, R'.1, R'.2.1, R'.2.2.1, R'.2.2.2.1, R'.2.2.2.2.1, R'.2.2.2.2.2.1, R'.2.2.2.2.2.2.1, R'.2.2.2.2.2.2.2) ∧ fX8_ask n row (nI z) b1 b2 b3 b4 w1 w2 w3 v1 v2 = some (r, w1', w2', w3') := by
  have hF := fctM_W h
  obtain ⟨o, hnm, hnl, ⟨zb, zm, s, ⟨hb, hm, s1, s2, s3⟩, ⟨x1, x2, x3, x4, x5, x6, x7, x8⟩, hy⟩, hrest⟩ := id h
  rw [relY0_eq] at hy
  obtain ⟨⟨y1, y2⟩, ⟨y3, y4, y5, y6, y7, y8⟩, y9, y10⟩ := id hy
  have hnf := o.1
  have i16 := fun v => pu_isMember n (row := row) (N := nm) (by omega) y3 v
  rcases inG_cas v1 (N := nm) (by omega) with g | ⟨m, hmm, rfl, g⟩
  · refine ⟨-nI 2, R, w1, w2, w3, ?_, ?_⟩
    · unfold fX7_ask
      simp (disch := omega) only [Nat.zero_add, qa, qb, qbb, qc, qd, qe, qf, qg, Option.bind_some, reduceIte, or_false, false_or, or_self, or_true, true_or, and_true, true_and, and_false, false_and, not_true_eq_false, not_false_eq_true, g, x1]
    · unfold fX8_ask
      simp (disch := omega) only [Nat.zero_add, qa, qb, qbb, qc, qd, qe, qf, qg, Option.bind_some, reduceIte, or_false, false_or, or_self, or_true, true_or, and_true, true_and, and_false, false_and, not_true_eq_false, not_false_eq_true, g, i16]
  · rcases q_cas v2 (a := 1) (N := 7) (by omega) (by omega) with ⟨t, t1, t2, rfl⟩ | g4 | ⟨g4, -, -, g5, g6⟩
    · obtain ⟨R1, E1⟩ := pu_ktf hn hnf hnm hC x7 s2 hS R
      obtain ⟨z1, z2, z3, E2⟩ := pu_kinds8 hn hF hnm y7 s2 hS w1 w2 w3
      have hst := colB_lt (fun kd => alB (fitB al nf s.2.1 S kd) z 0) 5
      generalize colB (fun kd => alB (fitB al nf s.2.1 S kd) z 0) 5 = st at E1 E2 hst
      have hst' : st < 4096 := by omega
      have hp := pc_le st
      have hb := pu_bits (n := n) (by omega) (a := st) (by omega)
      obtain ⟨R', E3⟩ := pu_ak7 hn (kn := N.2.2.2.2.1) (a1 := a1) (a2 := a2) (a3 := a3) (a4 := a4) hnf hC hst' (T := t) (by omega) (m := m) (by omega) (x7 m hmm) (s2 m hmm) (nI nm) (nI z) nf 0 (n - nf - 1) (0, pc st) R1 (by omega) hp
      obtain ⟨y1', y2', y3', E4⟩ := pu_a43 hn (b1 := b1) (b2 := b2) (b3 := b3) (b4 := b4) hF hst' (T := t) (by omega) (m := m) (by omega) (y7 m hmm) (s2 m hmm) (nI z) nf 0 (n - nf - 1) (0, pc st) z1 z2 z3 (by omega) hp
      have e : n - nf - 1 + nf + 1 = n := by omega
      rw [e] at E3 E4
      refine ⟨onI (akS (gpF al nf st t (s.2.1 m)) nf 0 (0, pc st)).1, R', y1', y2', y3', ?_, ?_⟩
      rotate_left
      · unfold fX8_ask
        simp (disch := omega) only [Nat.zero_add, qa, qb, qbb, qc, qd, qe, qf, qg, Option.bind_some, reduceIte, or_false, false_or, or_self, or_true, true_or, and_true, true_and, and_false, false_and, not_true_eq_false, not_false_eq_true, g, i16, E2, hb]
        exact E4
      · unfold fX7_ask
        simp (disch := omega) only [Nat.zero_add, qa, qb, qbb, qc, qd, qe, qf, qg, Option.bind_some, reduceIte, or_false, false_or, or_self, or_true, true_or, and_true, true_and, and_false, false_and, not_true_eq_false, not_false_eq_true, g, x1, E1]
        exact E3
    · refine ⟨-nI 3, R, w1, w2, w3, ?_, ?_⟩
      · unfold fX7_ask fX7_ask_25
        simp (disch := omega) only [Nat.zero_add, qa, qb, qbb, qc, qd, qe, qf, qg, Option.bind_some, reduceIte, or_false, false_or, or_self, or_true, true_or, and_true, true_and, and_false, false_and, not_true_eq_false, not_false_eq_true, g, x1, g4]
      · unfold fX8_ask
        simp (disch := omega) only [Nat.zero_add, qa, qb, qbb, qc, qd, qe, qf, qg, Option.bind_some, reduceIte, or_false, false_or, or_self, or_true, true_or, and_true, true_and, and_false, false_and, not_true_eq_false, not_false_eq_true, g, i16, g4]
    · refine ⟨-nI 3, R, w1, w2, w3, ?_, ?_⟩
      · unfold fX7_ask fX7_ask_25
        simp (disch := omega) only [Nat.zero_add, qa, qb, qbb, qc, qd, qe, qf, qg, Option.bind_some, reduceIte, or_false, false_or, or_self, or_true, true_or, and_true, true_and, and_false, false_and, not_true_eq_false, not_false_eq_true, g, x1, g4, g5]
      · unfold fX8_ask
        simp (disch := omega) only [Nat.zero_add, qa, qb, qbb, qc, qd, qe, qf, qg, Option.bind_some, reduceIte, or_false, false_or, or_self, or_true, true_or, and_true, true_and, and_false, false_and, not_true_eq_false, not_false_eq_true, g, i16, g4, g6]
